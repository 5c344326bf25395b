section
-- ===== PART A: goes FIRST, ahead of the names: the tables' words, and 'selects' of the private methods out of them =====
/-- a private method of a class that the tables say can be made, by its rows of tables_1 -/
def lw_okq (q : MethodName × Nat) : Prop := (q.1.cls ≠ "java/lang/invoke/MethodHandle" ∧ q.1.cls ≠ "java/lang/invoke/VarHandle") ∧ Cond.instantiable q.1.cls q.2 ∈ tables_1 ∧ Cond.privateMethod q.1 ∈ tables_1 ∧ Cond.instanceMethod q.1 ∈ tables_1
theorem lw_p0 : lw_okq (⟨"StrandBoxes$Boxes", "listPairings", "()V"⟩, 11) := ⟨⟨by decide +kernel, by decide +kernel⟩, List.mem_of_getElem? (i := 75) (by decide +kernel), List.mem_of_getElem? (i := 86) (by decide +kernel), List.mem_of_getElem? (i := 87) (by decide +kernel)⟩
theorem lw_p1 : lw_okq (⟨"StrandBoxes$Boxes", "pairBy", "([I[I)V"⟩, 11) := ⟨⟨by decide +kernel, by decide +kernel⟩, List.mem_of_getElem? (i := 75) (by decide +kernel), List.mem_of_getElem? (i := 90) (by decide +kernel), List.mem_of_getElem? (i := 91) (by decide +kernel)⟩
theorem lw_p2 : lw_okq (⟨"StrandBoxes$Boxes", "forgetSeen", "()V"⟩, 11) := ⟨⟨by decide +kernel, by decide +kernel⟩, List.mem_of_getElem? (i := 75) (by decide +kernel), List.mem_of_getElem? (i := 94) (by decide +kernel), List.mem_of_getElem? (i := 95) (by decide +kernel)⟩
theorem lw_p3 : lw_okq (⟨"StrandBoxes$Boxes", "freeBehind", "(II)I"⟩, 11) := ⟨⟨by decide +kernel, by decide +kernel⟩, List.mem_of_getElem? (i := 75) (by decide +kernel), List.mem_of_getElem? (i := 98) (by decide +kernel), List.mem_of_getElem? (i := 99) (by decide +kernel)⟩
theorem lw_p4 : lw_okq (⟨"StrandBoxes$Boxes", "countUp", "([I)V"⟩, 11) := ⟨⟨by decide +kernel, by decide +kernel⟩, List.mem_of_getElem? (i := 75) (by decide +kernel), List.mem_of_getElem? (i := 105) (by decide +kernel), List.mem_of_getElem? (i := 106) (by decide +kernel)⟩
theorem lw_p5 : lw_okq (⟨"StrandBoxes$Boxes", "closeRings", "([I)I"⟩, 11) := ⟨⟨by decide +kernel, by decide +kernel⟩, List.mem_of_getElem? (i := 75) (by decide +kernel), List.mem_of_getElem? (i := 109) (by decide +kernel), List.mem_of_getElem? (i := 110) (by decide +kernel)⟩
theorem lw_p6 : lw_okq (⟨"StrandBoxes$Boxes", "across", "(I)I"⟩, 11) := ⟨⟨by decide +kernel, by decide +kernel⟩, List.mem_of_getElem? (i := 75) (by decide +kernel), List.mem_of_getElem? (i := 113) (by decide +kernel), List.mem_of_getElem? (i := 114) (by decide +kernel)⟩
theorem lw_p7 : lw_okq (⟨"StrandBoxes$Boxes", "stackLetters", "()V"⟩, 11) := ⟨⟨by decide +kernel, by decide +kernel⟩, List.mem_of_getElem? (i := 75) (by decide +kernel), List.mem_of_getElem? (i := 117) (by decide +kernel), List.mem_of_getElem? (i := 118) (by decide +kernel)⟩
theorem lw_p8 : lw_okq (⟨"StrandBoxes$Boxes", "letterAt", "(I)I"⟩, 11) := ⟨⟨by decide +kernel, by decide +kernel⟩, List.mem_of_getElem? (i := 75) (by decide +kernel), List.mem_of_getElem? (i := 121) (by decide +kernel), List.mem_of_getElem? (i := 122) (by decide +kernel)⟩
theorem lw_p9 : lw_okq (⟨"StrandBoxes$Boxes", "isLetter", "(I)Z"⟩, 11) := ⟨⟨by decide +kernel, by decide +kernel⟩, List.mem_of_getElem? (i := 75) (by decide +kernel), List.mem_of_getElem? (i := 129) (by decide +kernel), List.mem_of_getElem? (i := 130) (by decide +kernel)⟩
theorem lw_p10 : lw_okq (⟨"StrandBoxes$Boxes", "numberOf", "([I)I"⟩, 11) := ⟨⟨by decide +kernel, by decide +kernel⟩, List.mem_of_getElem? (i := 75) (by decide +kernel), List.mem_of_getElem? (i := 133) (by decide +kernel), List.mem_of_getElem? (i := 134) (by decide +kernel)⟩
theorem lw_p11 : lw_okq (⟨"StrandBoxes$Boxes", "join", "([I[I)I"⟩, 11) := ⟨⟨by decide +kernel, by decide +kernel⟩, List.mem_of_getElem? (i := 75) (by decide +kernel), List.mem_of_getElem? (i := 137) (by decide +kernel), List.mem_of_getElem? (i := 138) (by decide +kernel)⟩
theorem lw_p12 : lw_okq (⟨"StrandBoxes$Boxes", "follow", "([I[II)I"⟩, 11) := ⟨⟨by decide +kernel, by decide +kernel⟩, List.mem_of_getElem? (i := 75) (by decide +kernel), List.mem_of_getElem? (i := 141) (by decide +kernel), List.mem_of_getElem? (i := 142) (by decide +kernel)⟩
theorem lw_p13 : lw_okq (⟨"StrandBoxes$Boxes", "countInnerRings", "([I[I)I"⟩, 11) := ⟨⟨by decide +kernel, by decide +kernel⟩, List.mem_of_getElem? (i := 75) (by decide +kernel), List.mem_of_getElem? (i := 145) (by decide +kernel), List.mem_of_getElem? (i := 146) (by decide +kernel)⟩
theorem lw_p14 : lw_okq (⟨"StrandBoxes$Boxes", "spellAll", "()V"⟩, 11) := ⟨⟨by decide +kernel, by decide +kernel⟩, List.mem_of_getElem? (i := 75) (by decide +kernel), List.mem_of_getElem? (i := 149) (by decide +kernel), List.mem_of_getElem? (i := 150) (by decide +kernel)⟩
theorem lw_p15 : lw_okq (⟨"StrandBoxes$Boxes", "spellBehind", "(III)V"⟩, 11) := ⟨⟨by decide +kernel, by decide +kernel⟩, List.mem_of_getElem? (i := 75) (by decide +kernel), List.mem_of_getElem? (i := 153) (by decide +kernel), List.mem_of_getElem? (i := 154) (by decide +kernel)⟩
def lw_privs_1 : List (MethodName × Nat) := [(⟨"StrandBoxes$Boxes", "listPairings", "()V"⟩, 11), (⟨"StrandBoxes$Boxes", "pairBy", "([I[I)V"⟩, 11), (⟨"StrandBoxes$Boxes", "forgetSeen", "()V"⟩, 11), (⟨"StrandBoxes$Boxes", "freeBehind", "(II)I"⟩, 11), (⟨"StrandBoxes$Boxes", "countUp", "([I)V"⟩, 11), (⟨"StrandBoxes$Boxes", "closeRings", "([I)I"⟩, 11), (⟨"StrandBoxes$Boxes", "across", "(I)I"⟩, 11), (⟨"StrandBoxes$Boxes", "stackLetters", "()V"⟩, 11), (⟨"StrandBoxes$Boxes", "letterAt", "(I)I"⟩, 11), (⟨"StrandBoxes$Boxes", "isLetter", "(I)Z"⟩, 11), (⟨"StrandBoxes$Boxes", "numberOf", "([I)I"⟩, 11), (⟨"StrandBoxes$Boxes", "join", "([I[I)I"⟩, 11), (⟨"StrandBoxes$Boxes", "follow", "([I[II)I"⟩, 11), (⟨"StrandBoxes$Boxes", "countInnerRings", "([I[I)I"⟩, 11), (⟨"StrandBoxes$Boxes", "spellAll", "()V"⟩, 11), (⟨"StrandBoxes$Boxes", "spellBehind", "(III)V"⟩, 11)]
theorem lw_r1 : ∀ q ∈ lw_privs_1, lw_okq q := List.forall_mem_cons.mpr ⟨lw_p0, List.forall_mem_cons.mpr ⟨lw_p1, List.forall_mem_cons.mpr ⟨lw_p2, List.forall_mem_cons.mpr ⟨lw_p3, List.forall_mem_cons.mpr ⟨lw_p4, List.forall_mem_cons.mpr ⟨lw_p5, List.forall_mem_cons.mpr ⟨lw_p6, List.forall_mem_cons.mpr ⟨lw_p7, List.forall_mem_cons.mpr ⟨lw_p8, List.forall_mem_cons.mpr ⟨lw_p9, List.forall_mem_cons.mpr ⟨lw_p10, List.forall_mem_cons.mpr ⟨lw_p11, List.forall_mem_cons.mpr ⟨lw_p12, List.forall_mem_cons.mpr ⟨lw_p13, List.forall_mem_cons.mpr ⟨lw_p14, List.forall_mem_cons.mpr ⟨lw_p15, fun _ h => absurd h List.not_mem_nil⟩⟩⟩⟩⟩⟩⟩⟩⟩⟩⟩⟩⟩⟩⟩⟩
theorem lw_p16 : lw_okq (⟨"StrandBoxes$Halves", "isHalf", "([I)Z"⟩, 7) := ⟨⟨by decide +kernel, by decide +kernel⟩, List.mem_of_getElem? (i := 203) (by decide +kernel), List.mem_of_getElem? (i := 210) (by decide +kernel), List.mem_of_getElem? (i := 211) (by decide +kernel)⟩
theorem lw_p17 : lw_okq (⟨"StrandBoxes$Halves", "keepDraft", "()V"⟩, 7) := ⟨⟨by decide +kernel, by decide +kernel⟩, List.mem_of_getElem? (i := 203) (by decide +kernel), List.mem_of_getElem? (i := 217) (by decide +kernel), List.mem_of_getElem? (i := 218) (by decide +kernel)⟩
theorem lw_p18 : lw_okq (⟨"StrandBoxes$Halves", "nextDraft", "()V"⟩, 7) := ⟨⟨by decide +kernel, by decide +kernel⟩, List.mem_of_getElem? (i := 203) (by decide +kernel), List.mem_of_getElem? (i := 222) (by decide +kernel), List.mem_of_getElem? (i := 223) (by decide +kernel)⟩
theorem lw_p19 : lw_okq (⟨"StrandBoxes$Boxes", "placeRound", "(I)I"⟩, 11) := ⟨⟨by decide +kernel, by decide +kernel⟩, List.mem_of_getElem? (i := 75) (by decide +kernel), List.mem_of_getElem? (i := 280) (by decide +kernel), List.mem_of_getElem? (i := 281) (by decide +kernel)⟩
theorem lw_p20 : lw_okq (⟨"StrandBoxes$Boxes", "isBetween", "(III)Z"⟩, 11) := ⟨⟨by decide +kernel, by decide +kernel⟩, List.mem_of_getElem? (i := 75) (by decide +kernel), List.mem_of_getElem? (i := 284) (by decide +kernel), List.mem_of_getElem? (i := 285) (by decide +kernel)⟩
theorem lw_p21 : lw_okq (⟨"StrandBoxes", "isBox", "(II)Z"⟩, 5) := ⟨⟨by decide +kernel, by decide +kernel⟩, List.mem_of_getElem? (i := 10) (by decide +kernel), List.mem_of_getElem? (i := 292) (by decide +kernel), List.mem_of_getElem? (i := 293) (by decide +kernel)⟩
theorem lw_p22 : lw_okq (⟨"StrandBoxes$Sum", "isAt", "(III)Z"⟩, 5) := ⟨⟨by decide +kernel, by decide +kernel⟩, List.mem_of_getElem? (i := 23) (by decide +kernel), List.mem_of_getElem? (i := 364) (by decide +kernel), List.mem_of_getElem? (i := 365) (by decide +kernel)⟩
theorem lw_p23 : lw_okq (⟨"StrandBoxes$Sum", "change", "(IJ)Z"⟩, 5) := ⟨⟨by decide +kernel, by decide +kernel⟩, List.mem_of_getElem? (i := 23) (by decide +kernel), List.mem_of_getElem? (i := 368) (by decide +kernel), List.mem_of_getElem? (i := 369) (by decide +kernel)⟩
theorem lw_p24 : lw_okq (⟨"StrandBoxes$Sum", "moveTail", "(II)V"⟩, 5) := ⟨⟨by decide +kernel, by decide +kernel⟩, List.mem_of_getElem? (i := 23) (by decide +kernel), List.mem_of_getElem? (i := 372) (by decide +kernel), List.mem_of_getElem? (i := 373) (by decide +kernel)⟩
theorem lw_p25 : lw_okq (⟨"StrandBoxes$Sum", "insert", "(IIIJ)Z"⟩, 5) := ⟨⟨by decide +kernel, by decide +kernel⟩, List.mem_of_getElem? (i := 23) (by decide +kernel), List.mem_of_getElem? (i := 377) (by decide +kernel), List.mem_of_getElem? (i := 378) (by decide +kernel)⟩
theorem lw_p26 : lw_okq (⟨"StrandBoxes", "make", "(ILStrandBoxes$Sum;LStrandBoxes$Sum;)Z"⟩, 5) := ⟨⟨by decide +kernel, by decide +kernel⟩, List.mem_of_getElem? (i := 10) (by decide +kernel), List.mem_of_getElem? (i := 385) (by decide +kernel), List.mem_of_getElem? (i := 386) (by decide +kernel)⟩
theorem lw_p27 : lw_okq (⟨"StrandBoxes$Halves", "leadsOut", "([I[II)Z"⟩, 7) := ⟨⟨by decide +kernel, by decide +kernel⟩, List.mem_of_getElem? (i := 203) (by decide +kernel), List.mem_of_getElem? (i := 458) (by decide +kernel), List.mem_of_getElem? (i := 459) (by decide +kernel)⟩
theorem lw_p28 : lw_okq (⟨"StrandBoxes$Halves", "goRound", "([I[II)V"⟩, 7) := ⟨⟨by decide +kernel, by decide +kernel⟩, List.mem_of_getElem? (i := 203) (by decide +kernel), List.mem_of_getElem? (i := 462) (by decide +kernel), List.mem_of_getElem? (i := 463) (by decide +kernel)⟩
theorem lw_p29 : lw_okq (⟨"StrandBoxes$Halves", "fillTable", "(III)I"⟩, 7) := ⟨⟨by decide +kernel, by decide +kernel⟩, List.mem_of_getElem? (i := 203) (by decide +kernel), List.mem_of_getElem? (i := 480) (by decide +kernel), List.mem_of_getElem? (i := 481) (by decide +kernel)⟩
theorem lw_p30 : lw_okq (⟨"StrandBoxes$Halves", "fillRow", "([IIII)V"⟩, 7) := ⟨⟨by decide +kernel, by decide +kernel⟩, List.mem_of_getElem? (i := 203) (by decide +kernel), List.mem_of_getElem? (i := 484) (by decide +kernel), List.mem_of_getElem? (i := 485) (by decide +kernel)⟩
theorem lw_p31 : lw_okq (⟨"StrandBoxes$Halves", "swapRows", "(III)V"⟩, 7) := ⟨⟨by decide +kernel, by decide +kernel⟩, List.mem_of_getElem? (i := 203) (by decide +kernel), List.mem_of_getElem? (i := 492) (by decide +kernel), List.mem_of_getElem? (i := 493) (by decide +kernel)⟩
def lw_privs_2 : List (MethodName × Nat) := [(⟨"StrandBoxes$Halves", "isHalf", "([I)Z"⟩, 7), (⟨"StrandBoxes$Halves", "keepDraft", "()V"⟩, 7), (⟨"StrandBoxes$Halves", "nextDraft", "()V"⟩, 7), (⟨"StrandBoxes$Boxes", "placeRound", "(I)I"⟩, 11), (⟨"StrandBoxes$Boxes", "isBetween", "(III)Z"⟩, 11), (⟨"StrandBoxes", "isBox", "(II)Z"⟩, 5), (⟨"StrandBoxes$Sum", "isAt", "(III)Z"⟩, 5), (⟨"StrandBoxes$Sum", "change", "(IJ)Z"⟩, 5), (⟨"StrandBoxes$Sum", "moveTail", "(II)V"⟩, 5), (⟨"StrandBoxes$Sum", "insert", "(IIIJ)Z"⟩, 5), (⟨"StrandBoxes", "make", "(ILStrandBoxes$Sum;LStrandBoxes$Sum;)Z"⟩, 5), (⟨"StrandBoxes$Halves", "leadsOut", "([I[II)Z"⟩, 7), (⟨"StrandBoxes$Halves", "goRound", "([I[II)V"⟩, 7), (⟨"StrandBoxes$Halves", "fillTable", "(III)I"⟩, 7), (⟨"StrandBoxes$Halves", "fillRow", "([IIII)V"⟩, 7), (⟨"StrandBoxes$Halves", "swapRows", "(III)V"⟩, 7)]
theorem lw_r2 : ∀ q ∈ lw_privs_2, lw_okq q := List.forall_mem_cons.mpr ⟨lw_p16, List.forall_mem_cons.mpr ⟨lw_p17, List.forall_mem_cons.mpr ⟨lw_p18, List.forall_mem_cons.mpr ⟨lw_p19, List.forall_mem_cons.mpr ⟨lw_p20, List.forall_mem_cons.mpr ⟨lw_p21, List.forall_mem_cons.mpr ⟨lw_p22, List.forall_mem_cons.mpr ⟨lw_p23, List.forall_mem_cons.mpr ⟨lw_p24, List.forall_mem_cons.mpr ⟨lw_p25, List.forall_mem_cons.mpr ⟨lw_p26, List.forall_mem_cons.mpr ⟨lw_p27, List.forall_mem_cons.mpr ⟨lw_p28, List.forall_mem_cons.mpr ⟨lw_p29, List.forall_mem_cons.mpr ⟨lw_p30, List.forall_mem_cons.mpr ⟨lw_p31, fun _ h => absurd h List.not_mem_nil⟩⟩⟩⟩⟩⟩⟩⟩⟩⟩⟩⟩⟩⟩⟩⟩
theorem lw_p32 : lw_okq (⟨"StrandBoxes$Halves", "clearBelow", "(IIII)V"⟩, 7) := ⟨⟨by decide +kernel, by decide +kernel⟩, List.mem_of_getElem? (i := 203) (by decide +kernel), List.mem_of_getElem? (i := 496) (by decide +kernel), List.mem_of_getElem? (i := 497) (by decide +kernel)⟩
theorem lw_p33 : lw_okq (⟨"StrandBoxes$Crossings", "addStates", "(LStrandBoxes$Boxes;)V"⟩, 5) := ⟨⟨by decide +kernel, by decide +kernel⟩, List.mem_of_getElem? (i := 52) (by decide +kernel), List.mem_of_getElem? (i := 537) (by decide +kernel), List.mem_of_getElem? (i := 538) (by decide +kernel)⟩
theorem lw_p34 : lw_okq (⟨"StrandBoxes$Crossings", "addState", "(II)V"⟩, 5) := ⟨⟨by decide +kernel, by decide +kernel⟩, List.mem_of_getElem? (i := 52) (by decide +kernel), List.mem_of_getElem? (i := 545) (by decide +kernel), List.mem_of_getElem? (i := 546) (by decide +kernel)⟩
theorem lw_p35 : lw_okq (⟨"StrandBoxesModel", "decode", "(II)V"⟩, 27) := ⟨⟨by decide +kernel, by decide +kernel⟩, List.mem_of_getElem? (i := 549) (by decide +kernel), List.mem_of_getElem? (i := 558) (by decide +kernel), List.mem_of_getElem? (i := 559) (by decide +kernel)⟩
theorem lw_p36 : lw_okq (⟨"StrandBoxesModel", "findWords", "(I)V"⟩, 27) := ⟨⟨by decide +kernel, by decide +kernel⟩, List.mem_of_getElem? (i := 549) (by decide +kernel), List.mem_of_getElem? (i := 568) (by decide +kernel), List.mem_of_getElem? (i := 569) (by decide +kernel)⟩
theorem lw_p37 : lw_okq (⟨"StrandBoxesModel", "plainBox", "(II)I"⟩, 27) := ⟨⟨by decide +kernel, by decide +kernel⟩, List.mem_of_getElem? (i := 549) (by decide +kernel), List.mem_of_getElem? (i := 572) (by decide +kernel), List.mem_of_getElem? (i := 573) (by decide +kernel)⟩
theorem lw_p38 : lw_okq (⟨"StrandBoxesModel", "numberOf", "(I)I"⟩, 27) := ⟨⟨by decide +kernel, by decide +kernel⟩, List.mem_of_getElem? (i := 549) (by decide +kernel), List.mem_of_getElem? (i := 576) (by decide +kernel), List.mem_of_getElem? (i := 577) (by decide +kernel)⟩
theorem lw_p39 : lw_okq (⟨"StrandBoxesModel", "stacked", "(III)I"⟩, 27) := ⟨⟨by decide +kernel, by decide +kernel⟩, List.mem_of_getElem? (i := 549) (by decide +kernel), List.mem_of_getElem? (i := 587) (by decide +kernel), List.mem_of_getElem? (i := 588) (by decide +kernel)⟩
theorem lw_p40 : lw_okq (⟨"StrandBoxesModel", "lead", "(IIII)I"⟩, 27) := ⟨⟨by decide +kernel, by decide +kernel⟩, List.mem_of_getElem? (i := 549) (by decide +kernel), List.mem_of_getElem? (i := 591) (by decide +kernel), List.mem_of_getElem? (i := 592) (by decide +kernel)⟩
theorem lw_p41 : lw_okq (⟨"StrandBoxesModel", "isPlane", "(II)Z"⟩, 27) := ⟨⟨by decide +kernel, by decide +kernel⟩, List.mem_of_getElem? (i := 549) (by decide +kernel), List.mem_of_getElem? (i := 685) (by decide +kernel), List.mem_of_getElem? (i := 686) (by decide +kernel)⟩
theorem lw_p42 : lw_okq (⟨"StrandBoxesModel", "through", "(II)I"⟩, 27) := ⟨⟨by decide +kernel, by decide +kernel⟩, List.mem_of_getElem? (i := 549) (by decide +kernel), List.mem_of_getElem? (i := 703) (by decide +kernel), List.mem_of_getElem? (i := 704) (by decide +kernel)⟩
theorem lw_p43 : lw_okq (⟨"StrandBoxesModel", "upsideDown", "(II)I"⟩, 27) := ⟨⟨by decide +kernel, by decide +kernel⟩, List.mem_of_getElem? (i := 549) (by decide +kernel), List.mem_of_getElem? (i := 707) (by decide +kernel), List.mem_of_getElem? (i := 708) (by decide +kernel)⟩
theorem lw_p44 : lw_okq (⟨"StrandBoxesModel", "ringsClosed", "(II)I"⟩, 27) := ⟨⟨by decide +kernel, by decide +kernel⟩, List.mem_of_getElem? (i := 549) (by decide +kernel), List.mem_of_getElem? (i := 711) (by decide +kernel), List.mem_of_getElem? (i := 712) (by decide +kernel)⟩
theorem lw_p45 : lw_okq (⟨"StrandBoxesModel", "store", "(II)I"⟩, 27) := ⟨⟨by decide +kernel, by decide +kernel⟩, List.mem_of_getElem? (i := 549) (by decide +kernel), List.mem_of_getElem? (i := 740) (by decide +kernel), List.mem_of_getElem? (i := 741) (by decide +kernel)⟩
theorem lw_p46 : lw_okq (⟨"StrandBoxesModel", "load", "(I)V"⟩, 27) := ⟨⟨by decide +kernel, by decide +kernel⟩, List.mem_of_getElem? (i := 549) (by decide +kernel), List.mem_of_getElem? (i := 751) (by decide +kernel), List.mem_of_getElem? (i := 752) (by decide +kernel)⟩
theorem lw_p47 : lw_okq (⟨"StrandBoxesModel", "comes", "(IIJ)Z"⟩, 27) := ⟨⟨by decide +kernel, by decide +kernel⟩, List.mem_of_getElem? (i := 549) (by decide +kernel), List.mem_of_getElem? (i := 755) (by decide +kernel), List.mem_of_getElem? (i := 756) (by decide +kernel)⟩
def lw_privs_3 : List (MethodName × Nat) := [(⟨"StrandBoxes$Halves", "clearBelow", "(IIII)V"⟩, 7), (⟨"StrandBoxes$Crossings", "addStates", "(LStrandBoxes$Boxes;)V"⟩, 5), (⟨"StrandBoxes$Crossings", "addState", "(II)V"⟩, 5), (⟨"StrandBoxesModel", "decode", "(II)V"⟩, 27), (⟨"StrandBoxesModel", "findWords", "(I)V"⟩, 27), (⟨"StrandBoxesModel", "plainBox", "(II)I"⟩, 27), (⟨"StrandBoxesModel", "numberOf", "(I)I"⟩, 27), (⟨"StrandBoxesModel", "stacked", "(III)I"⟩, 27), (⟨"StrandBoxesModel", "lead", "(IIII)I"⟩, 27), (⟨"StrandBoxesModel", "isPlane", "(II)Z"⟩, 27), (⟨"StrandBoxesModel", "through", "(II)I"⟩, 27), (⟨"StrandBoxesModel", "upsideDown", "(II)I"⟩, 27), (⟨"StrandBoxesModel", "ringsClosed", "(II)I"⟩, 27), (⟨"StrandBoxesModel", "store", "(II)I"⟩, 27), (⟨"StrandBoxesModel", "load", "(I)V"⟩, 27), (⟨"StrandBoxesModel", "comes", "(IIJ)Z"⟩, 27)]
theorem lw_r3 : ∀ q ∈ lw_privs_3, lw_okq q := List.forall_mem_cons.mpr ⟨lw_p32, List.forall_mem_cons.mpr ⟨lw_p33, List.forall_mem_cons.mpr ⟨lw_p34, List.forall_mem_cons.mpr ⟨lw_p35, List.forall_mem_cons.mpr ⟨lw_p36, List.forall_mem_cons.mpr ⟨lw_p37, List.forall_mem_cons.mpr ⟨lw_p38, List.forall_mem_cons.mpr ⟨lw_p39, List.forall_mem_cons.mpr ⟨lw_p40, List.forall_mem_cons.mpr ⟨lw_p41, List.forall_mem_cons.mpr ⟨lw_p42, List.forall_mem_cons.mpr ⟨lw_p43, List.forall_mem_cons.mpr ⟨lw_p44, List.forall_mem_cons.mpr ⟨lw_p45, List.forall_mem_cons.mpr ⟨lw_p46, List.forall_mem_cons.mpr ⟨lw_p47, fun _ h => absurd h List.not_mem_nil⟩⟩⟩⟩⟩⟩⟩⟩⟩⟩⟩⟩⟩⟩⟩⟩
theorem lw_p48 : lw_okq (⟨"StrandBoxesModel", "move", "(II)V"⟩, 27) := ⟨⟨by decide +kernel, by decide +kernel⟩, List.mem_of_getElem? (i := 549) (by decide +kernel), List.mem_of_getElem? (i := 761) (by decide +kernel), List.mem_of_getElem? (i := 762) (by decide +kernel)⟩
theorem lw_p49 : lw_okq (⟨"StrandBoxesModel", "lay", "(III[I)I"⟩, 27) := ⟨⟨by decide +kernel, by decide +kernel⟩, List.mem_of_getElem? (i := 549) (by decide +kernel), List.mem_of_getElem? (i := 796) (by decide +kernel), List.mem_of_getElem? (i := 797) (by decide +kernel)⟩
theorem lw_p50 : lw_okq (⟨"StrandBoxesModel", "formOf", "(I)I"⟩, 27) := ⟨⟨by decide +kernel, by decide +kernel⟩, List.mem_of_getElem? (i := 549) (by decide +kernel), List.mem_of_getElem? (i := 811) (by decide +kernel), List.mem_of_getElem? (i := 812) (by decide +kernel)⟩
theorem lw_p51 : lw_okq (⟨"StrandBoxesModel", "reduce", "(IIIII)V"⟩, 27) := ⟨⟨by decide +kernel, by decide +kernel⟩, List.mem_of_getElem? (i := 549) (by decide +kernel), List.mem_of_getElem? (i := 826) (by decide +kernel), List.mem_of_getElem? (i := 827) (by decide +kernel)⟩
theorem lw_p52 : lw_okq (⟨"StrandBoxesModel", "addState", "(I)V"⟩, 27) := ⟨⟨by decide +kernel, by decide +kernel⟩, List.mem_of_getElem? (i := 549) (by decide +kernel), List.mem_of_getElem? (i := 852) (by decide +kernel), List.mem_of_getElem? (i := 853) (by decide +kernel)⟩
def lw_privs_4 : List (MethodName × Nat) := [(⟨"StrandBoxesModel", "move", "(II)V"⟩, 27), (⟨"StrandBoxesModel", "lay", "(III[I)I"⟩, 27), (⟨"StrandBoxesModel", "formOf", "(I)I"⟩, 27), (⟨"StrandBoxesModel", "reduce", "(IIIII)V"⟩, 27), (⟨"StrandBoxesModel", "addState", "(I)V"⟩, 27)]
theorem lw_r4 : ∀ q ∈ lw_privs_4, lw_okq q := List.forall_mem_cons.mpr ⟨lw_p48, List.forall_mem_cons.mpr ⟨lw_p49, List.forall_mem_cons.mpr ⟨lw_p50, List.forall_mem_cons.mpr ⟨lw_p51, List.forall_mem_cons.mpr ⟨lw_p52, fun _ h => absurd h List.not_mem_nil⟩⟩⟩⟩⟩
def lw_privs : List (MethodName × Nat) := lw_privs_1 ++ (lw_privs_2 ++ (lw_privs_3 ++ (lw_privs_4)))
def lw_tbl : List Cond := k2_sels lw_privs ++ tables_1
theorem lw_privs_ok : ∀ q ∈ lw_privs, lw_okq q := by
  show ∀ q ∈ lw_privs_1 ++ (lw_privs_2 ++ (lw_privs_3 ++ (lw_privs_4))), lw_okq q
  exact List.forall_mem_append.mpr ⟨lw_r1, List.forall_mem_append.mpr ⟨lw_r2, List.forall_mem_append.mpr ⟨lw_r3, lw_r4⟩⟩⟩
-- ===== end of PART A; then your names; then what follows =====
end
section
/-- the table says that there is an array class over arrays of ty -/
def va_AOA (ty : FieldType) (U : State) : Prop := (Cond.arrayOver (.array ty)).before #[] U = true
theorem va_AOA.use {ty : FieldType} {A : Array Value} {U : State} (h : va_AOA ty U) : (Cond.arrayOver (.array ty)).before A U = true := h
/-! ===== BEGIN new T[n][m]: the outer array a place, the inner ones among the pooled ===== -/
/-- f, but v at every address of l -/
def vr_up {α : Type} (f : Nat → α) (l : List Nat) (v : α) : Nat → α := fun a => if a ∈ l then v else f a
theorem vr_up_in {α : Type} {f : Nat → α} {l : List Nat} {v : α} {a : Nat} (h : a ∈ l) : vr_up f l v a = v := if_pos h
theorem vr_up_ne {α : Type} {f : Nat → α} {l : List Nat} {v : α} {a : Nat} (h : a ∉ l) : vr_up f l v a = f a := if_neg h
theorem vr_rows {L l : List Nat} {f : Nat → va_E} {e : va_E} (h : ∀ a, a ∈ l → a ∉ L) : va_pl L f ++ l.map (fun a => (a, e)) = va_pl (L ++ l) (vr_up f l e) := by
  unfold va_pl
  rw [List.map_append]
  congr 1
  · apply List.map_congr_left
    intro a ha
    rw [vr_up_ne (fun q => h a q ha)]
  · apply List.map_congr_left
    intro a ha
    rw [vr_up_in ha]
theorem vr_lay {X rows : va_W} {x : Nat × va_E} {pl : va_W} {D : va_G} {cl : List vw_C} {H : Heap} (hP : va_P D cl (((X ++ pl) ++ [x]) ++ rows) H) : va_P D cl ((X ++ [x]) ++ (pl ++ rows)) H := by
  rw [List.append_assoc (X ++ pl)] at hP
  have h := va_P.swap hP
  rw [← List.append_assoc X] at h
  have h2 := va_P.swap h
  rw [List.append_assoc (X ++ [x])] at h2
  exact h2
theorem vr_layD {X rows : va_W} {x : Nat × va_E} {pl : va_W} {A : Nat → Prop} (hD : va_D A (((X ++ pl) ++ [x]) ++ rows)) : va_D A ((X ++ [x]) ++ (pl ++ rows)) := by
  rw [List.append_assoc (X ++ pl)] at hD
  have h := va_D.swap hD
  rw [← List.append_assoc X] at h
  have h2 := va_D.swap h
  rw [List.append_assoc (X ++ [x])] at h2
  exact h2
theorem vr_outer (c : ClassId) (N h0 : Nat) : ∀ i : Nat, Jvm.Free.Multi.outerC c N h0 i = arrV c N (fun j => va_rf (if j < i then some (h0 + 1 + j) else none))
  | 0 => by
    show ({ cls := c, slots := Array.replicate N .null, vm := .none } : Cell) = _
    rw [arrV_new]
    refine congrArg (arrV c N) (funext fun j => ?_)
    simp [va_rf]
  | i + 1 => by
    show (Jvm.Free.Multi.outerC c N h0 i).setSlot i (.ref (h0 + 1 + i)) = _
    rw [vr_outer c N h0 i, arrV_store]
    refine congrArg (arrV c N) (funext fun j => ?_)
    by_cases e : j = i
    · subst e
      simp [updV, va_rf]
    · by_cases h : j < i
      · simp [updV, e, h, Nat.lt_succ_of_lt h]
      · simp [updV, e, h, show ¬ j < i + 1 by omega]
section VGM
variable {p : Program} {l : Launch} {e : Env} {R : Room} {s : State} {m : MethodId} {args : Array Value} {below : List Frame} {meth : Method} {c : Code} {H : Heap} {locs : List Loc} {cells slots : Nat} {Q : State → Prop}
variable {cc : ByteArray} {pc : Nat} {ls : Array Slot} {rest : List Value} {D : va_G} {cl : List vw_C} {A : Nat → Prop} {a : Nat} {tys : List (ClassId × FieldType)} {ws : va_W} {H0 : Heap}
theorem va_mna {X : va_W} {L : List Nat} {f : Nat → va_E} {cc : ByteArray} (hexec : p.tables.exec = Jvm.exec) (hb : c.code = cc) {own : String} {index : Nat} {ty : FieldType} {cy : ClassId} (hown : s.vm.findClass own = some m.cls) (hclink : (Cond.classLink own index ("[" ++ (FieldType.array ty).toString)).before args s = true) (hover : va_AOA ty s) (harr : (Cond.arrayClass ty).before args s = true) (hcy : s.vm.findClass (FieldType.array ty).toString = some cy)
    (hK : va_K D cl tys s) (hP : va_P D cl (X ++ va_pl L f) H) (hD : va_D A (X ++ va_pl L f)) (hS : va_S A H0 H locs) (hA : ∀ q, H0.size ≤ q → A q) {n k : Int32} {N' K' : Nat} {z : vp_A} (hn : ¬ n < 0) (hk : ¬ k < 0) (hN : n.toNatClampNeg = N') (hM : k.toNatClampNeg = K')
    (hb1 : N' * 4 ≤ 536870912) (hb2 : K' * componentBytes ty ≤ 536870912) (hb3 : K' ≤ 536870912) (hdf : fits ty (defaultValue ty) = true) (hdd : (defaultValue ty).isDefault = true) (hcells : cells + (1 + N') ≤ R.cells) (hslots : slots + (N' + N' * K') ≤ R.slots) (hz : ∀ c : ClassId, Jvm.Free.Multi.innerC c K' (defaultValue ty) = vp_cell c z) (hdg : decode cc pc = .ok (.multianewarray index 2, 4))
    (kk : ∀ (q : Nat) (r : Nat → Nat) (cA : ClassId) (H1 : Heap), (∀ i j : Nat, i < N' → j < N' → r i = r j → i = j) → (∀ i : Nat, i < N' → r i ∉ L) → va_K D cl (tys ++ [(cA, .array ty)]) s →
      va_P D cl ((X ++ [(q, .inl (cA, N', .inr (.inr (.inr (.inr (fun i => if i < N' then some (r i) else none))))))]) ++ va_pl (L ++ (List.range N').map r) (vr_up f ((List.range N').map r) (.inl (cy, z)))) H1 → va_D A ((X ++ [(q, .inl (cA, N', .inr (.inr (.inr (.inr (fun i => if i < N' then some (r i) else none))))))]) ++ va_pl (L ++ (List.range N').map r) (vr_up f ((List.range N').map r) (.inl (cy, z)))) → va_S A H0 H1 locs →
      W p l e R s m args below meth c H1 locs (cells + 1 + N') (slots + N' + N' * K') Q (F0 m (pc + 4) ls (.ref q :: rest))) : W p l e R s m args below meth c H locs cells slots Q (F0 m pc ls (.int k :: .int n :: rest)) := by
  subst hN
  subst hM
  intro T hT Xs
  obtain ⟨vm₁, cA, comp, -, fA, fC, hO, -, X', step⟩ := Xs.multianewarray2F hexec hown hclink (va_AOA.use hover) harr (g := F0 m pc ls (.int k :: .int n :: rest)) rfl (by rw [hb]; exact hdg) rfl hn hk hb1 hb2 hb3 hdf hdd hcells hslots
  have ec : some cy = some comp := hcy.symm.trans fC
  cases ec
  generalize hF : Jvm.Free.Multi.fill (T.setVm vm₁) cA cy n.toNatClampNeg k.toNatClampNeg (defaultValue ty) n.toNatClampNeg = F at X' step
  have hTh : (T.setVm vm₁).heap = H := hT
  obtain ⟨f1, f2, -, -⟩ := Jvm.Free.Multi.fill_facts (T.setVm vm₁) cA cy n.toNatClampNeg k.toNatClampNeg (defaultValue ty) n.toNatClampNeg
  rw [hF, hTh] at f1 f2
  have hold : ∀ x : Nat, x < H.size → F.heap[x]? = H[x]? := fun x hx => by
    have := Jvm.Free.Multi.fill_old (T.setVm vm₁) cA cy n.toNatClampNeg k.toNatClampNeg (defaultValue ty) (a := x) (by rw [hTh]; exact hx) n.toNatClampNeg
    rw [hF, hTh] at this
    exact this
  have hrow : ∀ j : Nat, j < n.toNatClampNeg → F.heap[H.size + 1 + j]? = some (vp_cell cy z) := fun j hj => by
    have := Jvm.Free.Multi.fill_inner (T.setVm vm₁) cA cy n.toNatClampNeg k.toNatClampNeg (defaultValue ty) n.toNatClampNeg j hj
    rw [hF, hTh, hz] at this
    exact this
  have hout : Jvm.Free.Multi.outerC cA n.toNatClampNeg H.size n.toNatClampNeg = vp_cell cA (n.toNatClampNeg, .inr (.inr (.inr (.inr (fun i => if i < n.toNatClampNeg then some (H.size + 1 + i) else none))))) := by
    rw [vp_cell_q]
    exact vr_outer cA n.toNatClampNeg H.size n.toNatClampNeg
  rw [hout] at f2
  have hlt : ∀ a, a ∈ L → a < H.size := fun a ha => by
    obtain ⟨k9, hk9⟩ := va_pl_get (X := X) (f := f) ha
    exact (hP k9 _ hk9).lt
  have hnl : ∀ i : Nat, i < n.toNatClampNeg → H.size + 1 + i ∉ L := fun i _ h => by
    have := hlt _ h
    omega
  have hnm : ∀ a, a ∈ (List.range n.toNatClampNeg).map (fun i => H.size + 1 + i) → a ∉ L := fun a ha h => by
    obtain ⟨i, -, rfl⟩ := List.mem_map.mp ha
    have := hlt _ h
    omega
  have hP0 : va_P D cl (X ++ va_pl L f) F.heap := hP.kept (fun k9 x hx => hold x.1 ((hP k9 x hx).lt))
  have hP1 : va_P D cl ((X ++ va_pl L f) ++ [(H.size, .inl (cA, n.toNatClampNeg, .inr (.inr (.inr (.inr (fun i => if i < n.toNatClampNeg then some (H.size + 1 + i) else none))))))]) F.heap := hP0.app (fun k9 x hx => by
    have h0 : k9 < 1 := (List.getElem?_eq_some_iff.mp hx).1
    rw [show k9 = 0 by omega] at hx
    cases hx
    exact f2)
  have hP2 : va_P D cl (((X ++ va_pl L f) ++ [(H.size, .inl (cA, n.toNatClampNeg, .inr (.inr (.inr (.inr (fun i => if i < n.toNatClampNeg then some (H.size + 1 + i) else none))))))]) ++ ((List.range n.toNatClampNeg).map (fun i => H.size + 1 + i)).map (fun a => (a, .inl (cy, z)))) F.heap := hP1.app (fun k9 x hx => by
    obtain ⟨a, ha, rfl⟩ := List.mem_map.mp (List.mem_of_getElem? hx)
    obtain ⟨i, hi, rfl⟩ := List.mem_map.mp ha
    exact hrow i (List.mem_range.mp hi))
  have hD2 : va_D A (((X ++ va_pl L f) ++ [(H.size, .inl (cA, n.toNatClampNeg, .inr (.inr (.inr (.inr (fun i => if i < n.toNatClampNeg then some (H.size + 1 + i) else none))))))]) ++ ((List.range n.toNatClampNeg).map (fun i => H.size + 1 + i)).map (fun a => (a, .inl (cy, z)))) := by
    have hD1 := hD.push (e := .inl (cA, n.toNatClampNeg, .inr (.inr (.inr (.inr (fun i => if i < n.toNatClampNeg then some (H.size + 1 + i) else none)))))) hP rfl (hA _ hS.1)
    generalize hW1 : (X ++ va_pl L f) ++ [(H.size, .inl (cA, n.toNatClampNeg, .inr (.inr (.inr (.inr (fun i => if i < n.toNatClampNeg then some (H.size + 1 + i) else none))))))] = W1 at hD1 hP1 ⊢
    have hle : ∀ (k9 : Nat) (x : Nat × va_E), W1[k9]? = some x → x.1 ≤ H.size := fun k9 x hx => by
      rw [← hW1] at hx
      by_cases hl : k9 < (X ++ va_pl L f).length
      · rw [List.getElem?_append_left hl] at hx
        exact Nat.le_of_lt ((hP k9 x hx).lt)
      · rw [List.getElem?_append_right (by omega)] at hx
        have h0 : k9 - (X ++ va_pl L f).length < 1 := (List.getElem?_eq_some_iff.mp hx).1
        rw [show k9 - (X ++ va_pl L f).length = 0 by omega] at hx
        cases hx
        exact Nat.le_refl _
    have hr : ∀ (k9 : Nat) (x : Nat × va_E), (((List.range n.toNatClampNeg).map (fun i => H.size + 1 + i)).map (fun a => ((a, .inl (cy, z)) : Nat × va_E)))[k9]? = some x → x.1 = H.size + 1 + k9 := fun k9 x hx => by
      rw [List.getElem?_map, List.getElem?_map] at hx
      by_cases h9 : k9 < n.toNatClampNeg
      · rw [List.getElem?_range h9] at hx
        cases hx
        rfl
      · have hn0 : (List.range n.toNatClampNeg)[k9]? = none := List.getElem?_eq_none (by rw [List.length_range]; omega)
        rw [hn0] at hx
        cases hx
    refine ⟨fun i j x y hi hj hxy => ?_, fun k9 x hx => ?_⟩
    · by_cases h1 : i < W1.length <;> by_cases h2 : j < W1.length
      · rw [List.getElem?_append_left h1] at hi
        rw [List.getElem?_append_left h2] at hj
        exact hD1.1 i j x y hi hj hxy
      · rw [List.getElem?_append_left h1] at hi
        rw [List.getElem?_append_right (by omega)] at hj
        have := hle _ _ hi
        have := hr _ _ hj
        omega
      · rw [List.getElem?_append_right (by omega)] at hi
        rw [List.getElem?_append_left h2] at hj
        have := hle _ _ hj
        have := hr _ _ hi
        omega
      · rw [List.getElem?_append_right (by omega)] at hi hj
        have := hr _ _ hi
        have := hr _ _ hj
        omega
    · by_cases h1 : k9 < W1.length
      · rw [List.getElem?_append_left h1] at hx
        exact hD1.2 k9 x hx
      · rw [List.getElem?_append_right (by omega)] at hx
        have := hr _ _ hx
        exact hA _ (by have := hS.1; omega)
  have hAr : ArrOfT s cA (.array ty) := fun N9 z9 => by
    obtain ⟨-, k9, hk9, cm9, hkk9⟩ := (hO 0 0 0).1
    exact ⟨(fun q hq => by cases hq), k9, hk9, cm9, hkk9⟩
  have hK2 : va_K D cl (tys ++ [(cA, .array ty)]) s := ⟨hK.1, fun k9 x hx => by
    by_cases hl : k9 < tys.length
    · rw [List.getElem?_append_left hl] at hx
      exact hK.2 k9 x hx
    · rw [List.getElem?_append_right (by omega)] at hx
      have h0 : k9 - tys.length < 1 := (List.getElem?_eq_some_iff.mp hx).1
      rw [show k9 - tys.length = 0 by omega] at hx
      cases hx
      exact ⟨hAr, fA⟩⟩
  obtain ⟨t, a1, b1⟩ := kk H.size (fun i => H.size + 1 + i) cA F.heap (fun i j _ _ h => by have h9 : H.size + 1 + i = H.size + 1 + j := h; omega) hnl hK2 (by rw [← vr_rows hnm]; exact vr_lay hP2) (by rw [← vr_rows hnm]; exact vr_layD hD2) ⟨by rw [f1]; have := hS.1; omega, fun x h1 h2 => (hold x (Nat.lt_of_lt_of_le h1 hS.1)).trans (hS.2.1 x h1 h2), hS.2.2⟩ F rfl X'
  refine ⟨t, step t ?_, b1⟩
  have e : T.heap.size = H.size := by rw [hT]
  rw [e]
  exact a1
end VGM
/-! ===== END ===== -/

/-! ===== BEGIN printed: names, fields, word lists, decode rows ===== -/
def RX0 : String := "StrandBoxes$Boxes"
def TX0 : u_T := fun k => match k with
  | 0 => ("StrandBoxes$Boxes", "strands", "I", true)
  | 1 => ("StrandBoxes$Boxes", "points", "I", true)
  | 2 => ("StrandBoxes$Boxes", "letters", "I", true)
  | 3 => ("StrandBoxes$Boxes", "count", "I", true)
  | 4 => ("StrandBoxes$Boxes", "partners", "[[I", true)
  | 5 => ("StrandBoxes$Boxes", "rings", "[I", true)
  | 6 => ("StrandBoxes$Boxes", "lengths", "[I", true)
  | 7 => ("StrandBoxes$Boxes", "spellings", "[[I", true)
  | 8 => ("StrandBoxes$Boxes", "beneath", "[[I", true)
  | 9 => ("StrandBoxes$Boxes", "draft", "[I", true)
  | _ => ("StrandBoxes$Boxes", "seen", "[Z", true)
def tyX0 : Nat → FieldType := fun k => match k with
  | 0 => .int
  | 1 => .int
  | 2 => .int
  | 3 => .int
  | 4 => .array (.array .int)
  | 5 => .array .int
  | 6 => .array .int
  | 7 => .array (.array .int)
  | 8 => .array (.array .int)
  | 9 => .array .int
  | _ => .array .boolean
abbrev wsX00 : List Cond := u_ws RX0 TX0 11
theorem nmX0 : ∀ a, a < 11 → ∀ b, b < 11 → a ≠ b → (TX0 a).2.1 ≠ (TX0 b).2.1 := by decide +kernel
theorem tyX0_ok : ∀ k, k < 11 → parseFieldDescriptor (TX0 k).2.2.1 = some (tyX0 k) := by decide +kernel
abbrev cX0_init : ByteArray := prog_2_method_1_code
def yX0_init : MethodName := ⟨RX0, "<init>", "(I)V"⟩
abbrev cX0_countPairings : ByteArray := prog_2_method_2_code
def yX0_countPairings : MethodName := ⟨RX0, "countPairings", "(I)I"⟩
abbrev cX0_listPairings : ByteArray := prog_2_method_3_code
def yX0_listPairings : MethodName := ⟨RX0, "listPairings", "()V"⟩
abbrev cX0_pairBy : ByteArray := prog_2_method_4_code
def yX0_pairBy : MethodName := ⟨RX0, "pairBy", "([I[I)V"⟩
abbrev cX0_freeBehind : ByteArray := prog_2_method_5_code
def yX0_freeBehind : MethodName := ⟨RX0, "freeBehind", "(II)I"⟩
abbrev cX0_countUp : ByteArray := prog_2_method_6_code
def yX0_countUp : MethodName := ⟨RX0, "countUp", "([I)V"⟩
abbrev cX0_numberOf : ByteArray := prog_2_method_7_code
def yX0_numberOf : MethodName := ⟨RX0, "numberOf", "([I)I"⟩
abbrev cX0_countPlane : ByteArray := prog_2_method_8_code
def yX0_countPlane : MethodName := ⟨RX0, "countPlane", "()I"⟩
abbrev cX0_isPlane : ByteArray := prog_2_method_9_code
def yX0_isPlane : MethodName := ⟨RX0, "isPlane", "(I)Z"⟩
abbrev cX0_isBetween : ByteArray := prog_2_method_10_code
def yX0_isBetween : MethodName := ⟨RX0, "isBetween", "(III)Z"⟩
abbrev cX0_placeRound : ByteArray := prog_2_method_11_code
def yX0_placeRound : MethodName := ⟨RX0, "placeRound", "(I)I"⟩
abbrev cX0_countThrough : ByteArray := prog_2_method_12_code
def yX0_countThrough : MethodName := ⟨RX0, "countThrough", "(I)I"⟩
abbrev cX0_upsideDown : ByteArray := prog_2_method_13_code
def yX0_upsideDown : MethodName := ⟨RX0, "upsideDown", "(I)I"⟩
abbrev cX0_across : ByteArray := prog_2_method_14_code
def yX0_across : MethodName := ⟨RX0, "across", "(I)I"⟩
abbrev cX0_closeRings : ByteArray := prog_2_method_15_code
def yX0_closeRings : MethodName := ⟨RX0, "closeRings", "([I)I"⟩
abbrev cX0_forgetSeen : ByteArray := prog_2_method_16_code
def yX0_forgetSeen : MethodName := ⟨RX0, "forgetSeen", "()V"⟩
abbrev cX0_stackLetters : ByteArray := prog_2_method_17_code
def yX0_stackLetters : MethodName := ⟨RX0, "stackLetters", "()V"⟩
abbrev cX0_letterAt : ByteArray := prog_2_method_18_code
def yX0_letterAt : MethodName := ⟨RX0, "letterAt", "(I)I"⟩
abbrev cX0_isLetter : ByteArray := prog_2_method_19_code
def yX0_isLetter : MethodName := ⟨RX0, "isLetter", "(I)Z"⟩
abbrev cX0_ofLetter : ByteArray := prog_2_method_20_code
def yX0_ofLetter : MethodName := ⟨RX0, "ofLetter", "(I)I"⟩
abbrev cX0_pair : ByteArray := prog_2_method_21_code
def yX0_pair : MethodName := ⟨RX0, "pair", "([III)V"⟩
abbrev cX0_ofPairs : ByteArray := prog_2_method_22_code
def yX0_ofPairs : MethodName := ⟨RX0, "ofPairs", "(J)I"⟩
abbrev cX0_join : ByteArray := prog_2_method_23_code
def yX0_join : MethodName := ⟨RX0, "join", "([I[I)I"⟩
abbrev cX0_follow : ByteArray := prog_2_method_24_code
def yX0_follow : MethodName := ⟨RX0, "follow", "([I[II)I"⟩
abbrev cX0_countInnerRings : ByteArray := prog_2_method_25_code
def yX0_countInnerRings : MethodName := ⟨RX0, "countInnerRings", "([I[I)I"⟩
abbrev cX0_spellAll : ByteArray := prog_2_method_26_code
def yX0_spellAll : MethodName := ⟨RX0, "spellAll", "()V"⟩
abbrev cX0_spellBehind : ByteArray := prog_2_method_27_code
def yX0_spellBehind : MethodName := ⟨RX0, "spellBehind", "(III)V"⟩
abbrev cX0_letterOf : ByteArray := prog_2_method_28_code
def yX0_letterOf : MethodName := ⟨RX0, "letterOf", "(II)I"⟩
abbrev cX0_stackOn : ByteArray := prog_2_method_29_code
def yX0_stackOn : MethodName := ⟨RX0, "stackOn", "(II)I"⟩
def RX1 : String := "StrandBoxes$Crossings"
def TX1 : u_T := fun k => match k with
  | 0 => ("StrandBoxes$Crossings", "strands", "I", false)
  | 1 => ("StrandBoxes$Crossings", "size", "I", false)
  | 2 => ("StrandBoxes$Crossings", "letters", "[I", true)
  | 3 => ("StrandBoxes$Crossings", "wholes", "[I", true)
  | _ => ("StrandBoxes$Crossings", "summed", "Z", false)
def tyX1 : Nat → FieldType := fun k => match k with
  | 0 => .int
  | 1 => .int
  | 2 => .array .int
  | 3 => .array .int
  | _ => .boolean
abbrev wsX10 : List Cond := u_ws RX1 TX1 5
theorem nmX1 : ∀ a, a < 5 → ∀ b, b < 5 → a ≠ b → (TX1 a).2.1 ≠ (TX1 b).2.1 := by decide +kernel
theorem tyX1_ok : ∀ k, k < 5 → parseFieldDescriptor (TX1 k).2.2.1 = some (tyX1 k) := by decide +kernel
abbrev cX1_init : ByteArray := prog_3_method_1_code
def yX1_init : MethodName := ⟨RX1, "<init>", "()V"⟩
abbrev cX1_begin : ByteArray := prog_3_method_2_code
def yX1_begin : MethodName := ⟨RX1, "begin", "(I)V"⟩
abbrev cX1_allows : ByteArray := prog_3_method_3_code
def yX1_allows : MethodName := ⟨RX1, "allows", "(I)Z"⟩
abbrev cX1_append : ByteArray := prog_3_method_4_code
def yX1_append : MethodName := ⟨RX1, "append", "(I)Z"⟩
abbrev cX1_dropLast : ByteArray := prog_3_method_5_code
def yX1_dropLast : MethodName := ⟨RX1, "dropLast", "()Z"⟩
abbrev cX1_wholeAt : ByteArray := prog_3_method_6_code
def yX1_wholeAt : MethodName := ⟨RX1, "wholeAt", "(ILStrandBoxes$Boxes;)I"⟩
abbrev cX1_addStates : ByteArray := prog_3_method_7_code
def yX1_addStates : MethodName := ⟨RX1, "addStates", "(LStrandBoxes$Boxes;)V"⟩
abbrev cX1_addState : ByteArray := prog_3_method_8_code
def yX1_addState : MethodName := ⟨RX1, "addState", "(II)V"⟩
def RX2 : String := "StrandBoxes$Halves"
def TX2 : u_T := fun k => match k with
  | 0 => ("StrandBoxes$Halves", "strands", "I", true)
  | 1 => ("StrandBoxes$Halves", "partners", "[[I", true)
  | 2 => ("StrandBoxes$Halves", "left", "[I", true)
  | 3 => ("StrandBoxes$Halves", "table", "[[I", true)
  | 4 => ("StrandBoxes$Halves", "draft", "[I", true)
  | 5 => ("StrandBoxes$Halves", "seen", "[Z", true)
  | _ => ("StrandBoxes$Halves", "size", "I", false)
def tyX2 : Nat → FieldType := fun k => match k with
  | 0 => .int
  | 1 => .array (.array .int)
  | 2 => .array .int
  | 3 => .array (.array .int)
  | 4 => .array .int
  | 5 => .array .boolean
  | _ => .int
abbrev wsX20 : List Cond := u_ws RX2 TX2 7
theorem nmX2 : ∀ a, a < 7 → ∀ b, b < 7 → a ≠ b → (TX2 a).2.1 ≠ (TX2 b).2.1 := by decide +kernel
theorem tyX2_ok : ∀ k, k < 7 → parseFieldDescriptor (TX2 k).2.2.1 = some (tyX2 k) := by decide +kernel
abbrev cX2_init : ByteArray := prog_4_method_1_code
def yX2_init : MethodName := ⟨RX2, "<init>", "(I)V"⟩
abbrev cX2_nextDraft : ByteArray := prog_4_method_2_code
def yX2_nextDraft : MethodName := ⟨RX2, "nextDraft", "()V"⟩
abbrev cX2_keepDraft : ByteArray := prog_4_method_3_code
def yX2_keepDraft : MethodName := ⟨RX2, "keepDraft", "()V"⟩
abbrev cX2_isHalf : ByteArray := prog_4_method_4_code
def yX2_isHalf : MethodName := ⟨RX2, "isHalf", "([I)Z"⟩
abbrev cX2_keepsWithin : ByteArray := prog_4_method_5_code
def yX2_keepsWithin : MethodName := ⟨RX2, "keepsWithin", "([III)Z"⟩
abbrev cX2_countLeaving : ByteArray := prog_4_method_6_code
def yX2_countLeaving : MethodName := ⟨RX2, "countLeaving", "(I)I"⟩
abbrev cX2_find : ByteArray := prog_4_method_7_code
def yX2_find : MethodName := ⟨RX2, "find", "(II)I"⟩
abbrev cX2_lay : ByteArray := prog_4_method_8_code
def yX2_lay : MethodName := ⟨RX2, "lay", "(II)I"⟩
abbrev cX2_leadsOut : ByteArray := prog_4_method_9_code
def yX2_leadsOut : MethodName := ⟨RX2, "leadsOut", "([I[II)Z"⟩
abbrev cX2_goRound : ByteArray := prog_4_method_10_code
def yX2_goRound : MethodName := ⟨RX2, "goRound", "([I[II)V"⟩
abbrev cX2_rank : ByteArray := prog_4_method_11_code
def yX2_rank : MethodName := ⟨RX2, "rank", "(III)I"⟩
abbrev cX2_fillTable : ByteArray := prog_4_method_12_code
def yX2_fillTable : MethodName := ⟨RX2, "fillTable", "(III)I"⟩
abbrev cX2_fillRow : ByteArray := prog_4_method_13_code
def yX2_fillRow : MethodName := ⟨RX2, "fillRow", "([IIII)V"⟩
abbrev cX2_raise : ByteArray := prog_4_method_14_code
def yX2_raise : MethodName := ⟨RX2, "raise", "(III)I"⟩
abbrev cX2_swapRows : ByteArray := prog_4_method_15_code
def yX2_swapRows : MethodName := ⟨RX2, "swapRows", "(III)V"⟩
abbrev cX2_clearBelow : ByteArray := prog_4_method_16_code
def yX2_clearBelow : MethodName := ⟨RX2, "clearBelow", "(IIII)V"⟩
def RX3 : String := "StrandBoxes$Sum"
def TX3 : u_T := fun k => match k with
  | 0 => ("StrandBoxes$Sum", "strands", "I", false)
  | 1 => ("StrandBoxes$Sum", "size", "I", false)
  | 2 => ("StrandBoxes$Sum", "numbers", "[I", true)
  | 3 => ("StrandBoxes$Sum", "powers", "[I", true)
  | _ => ("StrandBoxes$Sum", "factors", "[J", true)
def tyX3 : Nat → FieldType := fun k => match k with
  | 0 => .int
  | 1 => .int
  | 2 => .array .int
  | 3 => .array .int
  | _ => .array .long
abbrev wsX30 : List Cond := u_ws RX3 TX3 5
theorem nmX3 : ∀ a, a < 5 → ∀ b, b < 5 → a ≠ b → (TX3 a).2.1 ≠ (TX3 b).2.1 := by decide +kernel
theorem tyX3_ok : ∀ k, k < 5 → parseFieldDescriptor (TX3 k).2.2.1 = some (tyX3 k) := by decide +kernel
abbrev cX3_init : ByteArray := prog_5_method_1_code
def yX3_init : MethodName := ⟨RX3, "<init>", "()V"⟩
abbrev cX3_begin : ByteArray := prog_5_method_2_code
def yX3_begin : MethodName := ⟨RX3, "begin", "(I)V"⟩
abbrev cX3_take : ByteArray := prog_5_method_3_code
def yX3_take : MethodName := ⟨RX3, "take", "(LStrandBoxes$Sum;)V"⟩
abbrev cX3_isLike : ByteArray := prog_5_method_4_code
def yX3_isLike : MethodName := ⟨RX3, "isLike", "(LStrandBoxes$Sum;)Z"⟩
abbrev cX3_isAt : ByteArray := prog_5_method_5_code
def yX3_isAt : MethodName := ⟨RX3, "isAt", "(III)Z"⟩
abbrev cX3_isFactor : ByteArray := prog_5_method_6_code
def yX3_isFactor : MethodName := ⟨RX3, "isFactor", "(J)Z"⟩
abbrev cX3_join : ByteArray := prog_5_method_7_code
def yX3_join : MethodName := ⟨RX3, "join", "(IIJ)Z"⟩
abbrev cX3_change : ByteArray := prog_5_method_8_code
def yX3_change : MethodName := ⟨RX3, "change", "(IJ)Z"⟩
abbrev cX3_insert : ByteArray := prog_5_method_9_code
def yX3_insert : MethodName := ⟨RX3, "insert", "(IIIJ)Z"⟩
abbrev cX3_moveTail : ByteArray := prog_5_method_10_code
def yX3_moveTail : MethodName := ⟨RX3, "moveTail", "(II)V"⟩
abbrev cX3_joinAll : ByteArray := prog_5_method_11_code
def yX3_joinAll : MethodName := ⟨RX3, "joinAll", "(LStrandBoxes$Sum;I)Z"⟩
abbrev cX3_joinProducts : ByteArray := prog_5_method_12_code
def yX3_joinProducts : MethodName := ⟨RX3, "joinProducts", "(LStrandBoxes$Sum;LStrandBoxes$Sum;LStrandBoxes$Boxes;)Z"⟩
abbrev cX3_fitsProduct : ByteArray := prog_5_method_13_code
def yX3_fitsProduct : MethodName := ⟨RX3, "fitsProduct", "(JJ)Z"⟩
def RX4 : String := "StrandBoxes"
def TX4 : u_T := fun k => match k with
  | 0 => ("StrandBoxes", "boxes", "[LStrandBoxes$Boxes;", true)
  | 1 => ("StrandBoxes", "halfRows", "[LStrandBoxes$Halves;", true)
  | 2 => ("StrandBoxes", "sums", "[LStrandBoxes$Sum;", true)
  | 3 => ("StrandBoxes", "made", "LStrandBoxes$Sum;", true)
  | _ => ("StrandBoxes", "crossings", "LStrandBoxes$Crossings;", true)
def tyX4 : Nat → FieldType := fun k => match k with
  | 0 => .array (.object "StrandBoxes$Boxes")
  | 1 => .array (.object "StrandBoxes$Halves")
  | 2 => .array (.object "StrandBoxes$Sum")
  | 3 => .object "StrandBoxes$Sum"
  | _ => .object "StrandBoxes$Crossings"
abbrev wsX40 : List Cond := u_ws RX4 TX4 5
theorem nmX4 : ∀ a, a < 5 → ∀ b, b < 5 → a ≠ b → (TX4 a).2.1 ≠ (TX4 b).2.1 := by decide +kernel
theorem tyX4_ok : ∀ k, k < 5 → parseFieldDescriptor (TX4 k).2.2.1 = some (tyX4 k) := by decide +kernel
abbrev cX4_init : ByteArray := prog_1_method_1_code
def yX4_init : MethodName := ⟨RX4, "<init>", "()V"⟩
abbrev cX4_many : ByteArray := prog_1_method_2_code
def yX4_many : MethodName := ⟨RX4, "many", "(II)I"⟩
abbrev cX4_partner : ByteArray := prog_1_method_3_code
def yX4_partner : MethodName := ⟨RX4, "partner", "(III)I"⟩
abbrev cX4_about : ByteArray := prog_1_method_4_code
def yX4_about : MethodName := ⟨RX4, "about", "(III)I"⟩
abbrev cX4_stack : ByteArray := prog_1_method_5_code
def yX4_stack : MethodName := ⟨RX4, "stack", "(III)I"⟩
abbrev cX4_box : ByteArray := prog_1_method_6_code
def yX4_box : MethodName := ⟨RX4, "box", "(IJ)I"⟩
abbrev cX4_plain : ByteArray := prog_1_method_7_code
def yX4_plain : MethodName := ⟨RX4, "plain", "(II)I"⟩
abbrev cX4_word : ByteArray := prog_1_method_8_code
def yX4_word : MethodName := ⟨RX4, "word", "(III)I"⟩
abbrev cX4_clear : ByteArray := prog_1_method_9_code
def yX4_clear : MethodName := ⟨RX4, "clear", "(II)I"⟩
abbrev cX4_add : ByteArray := prog_1_method_10_code
def yX4_add : MethodName := ⟨RX4, "add", "(IIIJ)I"⟩
abbrev cX4_work : ByteArray := prog_1_method_11_code
def yX4_work : MethodName := ⟨RX4, "work", "(IIII)I"⟩
abbrev cX4_sum : ByteArray := prog_1_method_12_code
def yX4_sum : MethodName := ⟨RX4, "sum", "(II)I"⟩
abbrev cX4_term : ByteArray := prog_1_method_13_code
def yX4_term : MethodName := ⟨RX4, "term", "(III)J"⟩
abbrev cX4_same : ByteArray := prog_1_method_14_code
def yX4_same : MethodName := ⟨RX4, "same", "(II)I"⟩
abbrev cX4_closed : ByteArray := prog_1_method_15_code
def yX4_closed : MethodName := ⟨RX4, "closed", "(II)J"⟩
abbrev cX4_halves : ByteArray := prog_1_method_16_code
def yX4_halves : MethodName := ⟨RX4, "halves", "(II)I"⟩
abbrev cX4_half : ByteArray := prog_1_method_17_code
def yX4_half : MethodName := ⟨RX4, "half", "(IIII)I"⟩
abbrev cX4_form : ByteArray := prog_1_method_18_code
def yX4_form : MethodName := ⟨RX4, "form", "(IIII)I"⟩
abbrev cX4_free : ByteArray := prog_1_method_19_code
def yX4_free : MethodName := ⟨RX4, "free", "(IIII)I"⟩
abbrev cX4_row : ByteArray := prog_1_method_20_code
def yX4_row : MethodName := ⟨RX4, "row", "(I)I"⟩
abbrev cX4_cross : ByteArray := prog_1_method_21_code
def yX4_cross : MethodName := ⟨RX4, "cross", "(I)I"⟩
abbrev cX4_back : ByteArray := prog_1_method_22_code
def yX4_back : MethodName := ⟨RX4, "back", "()I"⟩
abbrev cX4_power : ByteArray := prog_1_method_23_code
def yX4_power : MethodName := ⟨RX4, "power", "(I)I"⟩
abbrev cX4_isStrands : ByteArray := prog_1_method_24_code
def yX4_isStrands : MethodName := ⟨RX4, "isStrands", "(I)Z"⟩
abbrev cX4_isSum : ByteArray := prog_1_method_25_code
def yX4_isSum : MethodName := ⟨RX4, "isSum", "(I)Z"⟩
abbrev cX4_isThrough : ByteArray := prog_1_method_26_code
def yX4_isThrough : MethodName := ⟨RX4, "isThrough", "(II)Z"⟩
abbrev cX4_isBox : ByteArray := prog_1_method_27_code
def yX4_isBox : MethodName := ⟨RX4, "isBox", "(II)Z"⟩
abbrev cX4_isPrime : ByteArray := prog_1_method_28_code
def yX4_isPrime : MethodName := ⟨RX4, "isPrime", "(I)Z"⟩
abbrev cX4_make : ByteArray := prog_1_method_29_code
def yX4_make : MethodName := ⟨RX4, "make", "(ILStrandBoxes$Sum;LStrandBoxes$Sum;)Z"⟩
def RX5 : String := "StrandBoxesModel"
def TX5 : u_T := fun k => match k with
  | 0 => ("StrandBoxesModel", "table", "[I", true)
  | 1 => ("StrandBoxesModel", "lastLetter", "[I", true)
  | 2 => ("StrandBoxesModel", "ahead", "[I", true)
  | 3 => ("StrandBoxesModel", "letters", "[I", true)
  | 4 => ("StrandBoxesModel", "strands", "[I", true)
  | 5 => ("StrandBoxesModel", "terms", "[I", true)
  | 6 => ("StrandBoxesModel", "termBox", "[I", true)
  | 7 => ("StrandBoxesModel", "termPower", "[I", true)
  | 8 => ("StrandBoxesModel", "termFactor", "[J", true)
  | 9 => ("StrandBoxesModel", "rowStrands", "I", false)
  | 10 => ("StrandBoxesModel", "crossings", "I", false)
  | 11 => ("StrandBoxesModel", "crossing", "[I", true)
  | 12 => ("StrandBoxesModel", "taken", "[Z", true)
  | 13 => ("StrandBoxesModel", "made", "[I", true)
  | 14 => ("StrandBoxesModel", "met", "[Z", true)
  | 15 => ("StrandBoxesModel", "rings", "I", false)
  | 16 => ("StrandBoxesModel", "queue", "[I", true)
  | 17 => ("StrandBoxesModel", "size", "I", false)
  | 18 => ("StrandBoxesModel", "rowBox", "[I", true)
  | 19 => ("StrandBoxesModel", "rowPower", "[I", true)
  | 20 => ("StrandBoxesModel", "rowFactor", "[J", true)
  | 21 => ("StrandBoxesModel", "halfA", "[I", true)
  | 22 => ("StrandBoxesModel", "halfB", "[I", true)
  | 23 => ("StrandBoxesModel", "forms", "[I", true)
  | 24 => ("StrandBoxesModel", "all", "[I", true)
  | 25 => ("StrandBoxesModel", "state", "[I", true)
  | _ => ("StrandBoxesModel", "next", "[I", true)
def tyX5 : Nat → FieldType := fun k => match k with
  | 0 => .array .int
  | 1 => .array .int
  | 2 => .array .int
  | 3 => .array .int
  | 4 => .array .int
  | 5 => .array .int
  | 6 => .array .int
  | 7 => .array .int
  | 8 => .array .long
  | 9 => .int
  | 10 => .int
  | 11 => .array .int
  | 12 => .array .boolean
  | 13 => .array .int
  | 14 => .array .boolean
  | 15 => .int
  | 16 => .array .int
  | 17 => .int
  | 18 => .array .int
  | 19 => .array .int
  | 20 => .array .long
  | 21 => .array .int
  | 22 => .array .int
  | 23 => .array .int
  | 24 => .array .int
  | 25 => .array .int
  | _ => .array .int
abbrev wsX50 : List Cond := u_ws RX5 TX5 27
theorem nmX5 : ∀ a, a < 27 → ∀ b, b < 27 → a ≠ b → (TX5 a).2.1 ≠ (TX5 b).2.1 := by decide +kernel
theorem tyX5_ok : ∀ k, k < 27 → parseFieldDescriptor (TX5 k).2.2.1 = some (tyX5 k) := by decide +kernel
abbrev cX5_init : ByteArray := prog_7_method_1_code
def yX5_init : MethodName := ⟨RX5, "<init>", "()V"⟩
abbrev cX5_in : ByteArray := prog_7_method_2_code
def yX5_in : MethodName := ⟨RX5, "in", "(JJJ)Z"⟩
abbrev cX5_isWide : ByteArray := prog_7_method_3_code
def yX5_isWide : MethodName := ⟨RX5, "isWide", "(I)Z"⟩
abbrev cX5_boxes : ByteArray := prog_7_method_4_code
def yX5_boxes : MethodName := ⟨RX5, "boxes", "(I)I"⟩
abbrev cX5_first : ByteArray := prog_7_method_5_code
def yX5_first : MethodName := ⟨RX5, "first", "(I)I"⟩
abbrev cX5_isBox : ByteArray := prog_7_method_6_code
def yX5_isBox : MethodName := ⟨RX5, "isBox", "(II)Z"⟩
abbrev cX5_at : ByteArray := prog_7_method_7_code
def yX5_at : MethodName := ⟨RX5, "at", "(II)I"⟩
abbrev cX5_decode : ByteArray := prog_7_method_8_code
def yX5_decode : MethodName := ⟨RX5, "decode", "(II)V"⟩
abbrev cX5_numberOf : ByteArray := prog_7_method_9_code
def yX5_numberOf : MethodName := ⟨RX5, "numberOf", "(I)I"⟩
abbrev cX5_lead : ByteArray := prog_7_method_10_code
def yX5_lead : MethodName := ⟨RX5, "lead", "(IIII)I"⟩
abbrev cX5_stacked : ByteArray := prog_7_method_11_code
def yX5_stacked : MethodName := ⟨RX5, "stacked", "(III)I"⟩
abbrev cX5_ringsClosed : ByteArray := prog_7_method_12_code
def yX5_ringsClosed : MethodName := ⟨RX5, "ringsClosed", "(II)I"⟩
abbrev cX5_isLetter : ByteArray := prog_7_method_13_code
def yX5_isLetter : MethodName := ⟨RX5, "isLetter", "(II)Z"⟩
abbrev cX5_plainBox : ByteArray := prog_7_method_14_code
def yX5_plainBox : MethodName := ⟨RX5, "plainBox", "(II)I"⟩
abbrev cX5_findWords : ByteArray := prog_7_method_15_code
def yX5_findWords : MethodName := ⟨RX5, "findWords", "(I)V"⟩
abbrev cX5_isPlane : ByteArray := prog_7_method_16_code
def yX5_isPlane : MethodName := ⟨RX5, "isPlane", "(II)Z"⟩
abbrev cX5_round : ByteArray := prog_7_method_17_code
def yX5_round : MethodName := ⟨RX5, "round", "(II)I"⟩
abbrev cX5_many : ByteArray := prog_7_method_18_code
def yX5_many : MethodName := ⟨RX5, "many", "(II)I"⟩
abbrev cX5_partner : ByteArray := prog_7_method_19_code
def yX5_partner : MethodName := ⟨RX5, "partner", "(III)I"⟩
abbrev cX5_through : ByteArray := prog_7_method_20_code
def yX5_through : MethodName := ⟨RX5, "through", "(II)I"⟩
abbrev cX5_upsideDown : ByteArray := prog_7_method_21_code
def yX5_upsideDown : MethodName := ⟨RX5, "upsideDown", "(II)I"⟩
abbrev cX5_about : ByteArray := prog_7_method_22_code
def yX5_about : MethodName := ⟨RX5, "about", "(III)I"⟩
abbrev cX5_stack : ByteArray := prog_7_method_23_code
def yX5_stack : MethodName := ⟨RX5, "stack", "(III)I"⟩
abbrev cX5_box : ByteArray := prog_7_method_24_code
def yX5_box : MethodName := ⟨RX5, "box", "(IJ)I"⟩
abbrev cX5_plain : ByteArray := prog_7_method_25_code
def yX5_plain : MethodName := ⟨RX5, "plain", "(II)I"⟩
abbrev cX5_word : ByteArray := prog_7_method_26_code
def yX5_word : MethodName := ⟨RX5, "word", "(III)I"⟩
abbrev cX5_isSum : ByteArray := prog_7_method_27_code
def yX5_isSum : MethodName := ⟨RX5, "isSum", "(I)Z"⟩
abbrev cX5_load : ByteArray := prog_7_method_28_code
def yX5_load : MethodName := ⟨RX5, "load", "(I)V"⟩
abbrev cX5_store : ByteArray := prog_7_method_29_code
def yX5_store : MethodName := ⟨RX5, "store", "(II)I"⟩
abbrev cX5_move : ByteArray := prog_7_method_30_code
def yX5_move : MethodName := ⟨RX5, "move", "(II)V"⟩
abbrev cX5_comes : ByteArray := prog_7_method_31_code
def yX5_comes : MethodName := ⟨RX5, "comes", "(IIJ)Z"⟩
abbrev cX5_clear : ByteArray := prog_7_method_32_code
def yX5_clear : MethodName := ⟨RX5, "clear", "(II)I"⟩
abbrev cX5_add : ByteArray := prog_7_method_33_code
def yX5_add : MethodName := ⟨RX5, "add", "(IIIJ)I"⟩
abbrev cX5_work : ByteArray := prog_7_method_34_code
def yX5_work : MethodName := ⟨RX5, "work", "(IIII)I"⟩
abbrev cX5_sum : ByteArray := prog_7_method_35_code
def yX5_sum : MethodName := ⟨RX5, "sum", "(II)I"⟩
abbrev cX5_term : ByteArray := prog_7_method_36_code
def yX5_term : MethodName := ⟨RX5, "term", "(III)J"⟩
abbrev cX5_same : ByteArray := prog_7_method_37_code
def yX5_same : MethodName := ⟨RX5, "same", "(II)I"⟩
abbrev cX5_closed : ByteArray := prog_7_method_38_code
def yX5_closed : MethodName := ⟨RX5, "closed", "(II)J"⟩
abbrev cX5_isHalf : ByteArray := prog_7_method_39_code
def yX5_isHalf : MethodName := ⟨RX5, "isHalf", "(II[I)Z"⟩
abbrev cX5_lay : ByteArray := prog_7_method_40_code
def yX5_lay : MethodName := ⟨RX5, "lay", "(III[I)I"⟩
abbrev cX5_areHalves : ByteArray := prog_7_method_41_code
def yX5_areHalves : MethodName := ⟨RX5, "areHalves", "(II)Z"⟩
abbrev cX5_halves : ByteArray := prog_7_method_42_code
def yX5_halves : MethodName := ⟨RX5, "halves", "(II)I"⟩
abbrev cX5_half : ByteArray := prog_7_method_43_code
def yX5_half : MethodName := ⟨RX5, "half", "(IIII)I"⟩
abbrev cX5_formOf : ByteArray := prog_7_method_44_code
def yX5_formOf : MethodName := ⟨RX5, "formOf", "(I)I"⟩
abbrev cX5_form : ByteArray := prog_7_method_45_code
def yX5_form : MethodName := ⟨RX5, "form", "(IIII)I"⟩
abbrev cX5_isPrime : ByteArray := prog_7_method_46_code
def yX5_isPrime : MethodName := ⟨RX5, "isPrime", "(I)Z"⟩
abbrev cX5_inverse : ByteArray := prog_7_method_47_code
def yX5_inverse : MethodName := ⟨RX5, "inverse", "(II)I"⟩
abbrev cX5_free : ByteArray := prog_7_method_48_code
def yX5_free : MethodName := ⟨RX5, "free", "(IIII)I"⟩
abbrev cX5_reduce : ByteArray := prog_7_method_49_code
def yX5_reduce : MethodName := ⟨RX5, "reduce", "(IIIII)V"⟩
abbrev cX5_row : ByteArray := prog_7_method_50_code
def yX5_row : MethodName := ⟨RX5, "row", "(I)I"⟩
abbrev cX5_cross : ByteArray := prog_7_method_51_code
def yX5_cross : MethodName := ⟨RX5, "cross", "(I)I"⟩
abbrev cX5_back : ByteArray := prog_7_method_52_code
def yX5_back : MethodName := ⟨RX5, "back", "()I"⟩
abbrev cX5_addState : ByteArray := prog_7_method_53_code
def yX5_addState : MethodName := ⟨RX5, "addState", "(I)V"⟩
abbrev cX5_power : ByteArray := prog_7_method_54_code
def yX5_power : MethodName := ⟨RX5, "power", "(I)I"⟩
def RJ9 : String := "java/lang/Math"
def TJ9 : u_T := fun k => match k with
  | _ => ("", "", "", false)
def tyJ9 : Nat → FieldType := fun k => match k with
  | _ => .int
abbrev wsJ90 : List Cond := u_ws RJ9 TJ9 0
theorem nmJ9 : ∀ a, a < 0 → ∀ b, b < 0 → a ≠ b → (TJ9 a).2.1 ≠ (TJ9 b).2.1 := by decide +kernel
theorem tyJ9_ok : ∀ k, k < 0 → parseFieldDescriptor (TJ9 k).2.2.1 = some (tyJ9 k) := by decide +kernel
abbrev cJ9_floorMod_7cf53 : ByteArray := prog_8_method_50_code
def yJ9_floorMod_7cf53 : MethodName := ⟨RJ9, "floorMod", "(II)I"⟩
abbrev cJ9_abs_0f7a4 : ByteArray := prog_8_method_59_code
def yJ9_abs_0f7a4 : MethodName := ⟨RJ9, "abs", "(I)I"⟩
abbrev cJ9_abs_067f4 : ByteArray := prog_8_method_61_code
def yJ9_abs_067f4 : MethodName := ⟨RJ9, "abs", "(J)J"⟩
abbrev cJ9_min_7cf53 : ByteArray := prog_8_method_69_code
def yJ9_min_7cf53 : MethodName := ⟨RJ9, "min", "(II)I"⟩
def RJ10 : String := "java/lang/System"
def TJ10 : u_T := fun k => match k with
  | _ => ("", "", "", false)
def tyJ10 : Nat → FieldType := fun k => match k with
  | _ => .int
abbrev wsJ100 : List Cond := u_ws RJ10 TJ10 0
theorem nmJ10 : ∀ a, a < 0 → ∀ b, b < 0 → a ≠ b → (TJ10 a).2.1 ≠ (TJ10 b).2.1 := by decide +kernel
theorem tyJ10_ok : ∀ k, k < 0 → parseFieldDescriptor (TJ10 k).2.2.1 = some (tyJ10 k) := by decide +kernel
def RL : String := "StrandBoxesLaw"
abbrev cL_law : ByteArray := code
def yL_law : MethodName := ⟨RL, "law", "([I)Z"⟩
abbrev vwCl : List vw_C := [(RX0, TX0, 11), (RX1, TX1, 5), (RX2, TX2, 7), (RX3, TX3, 5), (RX4, TX4, 5), (RX5, TX5, 27)]
end
section
/-! A small machine for the bytecode: its numbers are Int, its addresses are places in one row of cells. -/
abbrev am_V : Type := (Int ⊕ Int) ⊕ Option (Option Nat)
abbrev vI (x : Int) : am_V := .inl (.inl x)
abbrev vL (x : Int) : am_V := .inl (.inr x)
abbrev vR (k : Nat) : am_V := .inr (some (some k))
abbrev vN : am_V := .inr (some none)
/-- no value: a local that is not set -/
abbrev vU : am_V := .inr none
/-- a cell: its kind, its length, its places. Kinds: 0 int[], 1 boolean[], 2 long[], 3 int[][], 4 Boxes[], 5 Halves[], 6 Sum[], 10 + c an object of class c -/
abbrev am_K : Type := Nat × Nat × (Nat → am_V)
/-- how many cells, how many slots, the cells -/
abbrev am_H : Type := Nat × Nat × (Nat → am_K)
abbrev am_I : Type := Instr × Nat × Nat × Nat
abbrev am_C : Type := List (List (Option am_I))
/-- pc, locals, stack, heap -/
abbrev am_S : Type := Nat × List am_V × List am_V × am_H
/-- a step's end: a state; a call (method, arguments, the state behind it without the answer); the method's end -/
abbrev am_R : Type := Option (am_S ⊕ ((Nat × List am_V × am_S) ⊕ (Option am_V × am_H)))
abbrev am_F : Type := Nat → Nat → Nat → am_S → am_R
def am_w (x : Int) : Int := Int.bmod x 4294967296
def am_wl (x : Int) : Int := Int.bmod x 18446744073709551616
-- the heap
def am_up {α : Type} (f : Nat → α) (k : Nat) (v : α) : Nat → α := fun j => if j = k then v else f j
def am_wr (h : am_H) (a i : Nat) (v : am_V) : am_H := (h.1, h.2.1, am_up h.2.2 a ((h.2.2 a).1, (h.2.2 a).2.1, am_up (h.2.2 a).2.2 i v))
def am_mk (h : am_H) (kd n : Nat) (c : Nat → am_V) : am_H := (h.1 + 1, h.2.1 + n, am_up h.2.2 h.1 (kd, n, c))
-- instructions
def am_push (v : am_V) : am_F := fun len _ _ s => some (.inl (s.1 + len, s.2.1, v :: s.2.2.1, s.2.2.2))
/-- kinds of values: 0 int, 1 long, 2 reference -/
def am_is (k : Nat) (v : am_V) : Bool := match v with
  | .inl (.inl _) => k == 0
  | .inl (.inr _) => k == 1
  | .inr (some (some _)) => k == 2
  | .inr _ => false
def am_load (k i : Nat) : am_F := fun len _ _ s => match s.2.1[i]? with
  | some v => if am_is k v then some (.inl (s.1 + len, s.2.1, v :: s.2.2.1, s.2.2.2)) else none
  | none => none
/-- a long just below the place i is no value any more -/
def am_cl (ls : List am_V) (i : Nat) : List am_V := match i with
  | 0 => ls
  | j + 1 => (match ls[j]? with
    | some (.inl (.inr _)) => ls.set j vU
    | _ => ls)
def am_stor (k i : Nat) : am_F := fun len _ _ s => match s.2.2.1 with
  | v :: st => if am_is k v && decide (i < s.2.1.length) then some (.inl (s.1 + len, (am_cl s.2.1 i).set i v, st, s.2.2.2)) else none
  | _ => none
def am_storl (i : Nat) : am_F := fun len _ _ s => match s.2.2.1 with
  | (.inl (.inr x)) :: st => if i + 1 < s.2.1.length then some (.inl (s.1 + len, ((am_cl s.2.1 i).set i (vL x)).set (i + 1) vU, st, s.2.2.2)) else none
  | _ => none
def am_iinc (i : Nat) (n : Int) : am_F := fun len _ _ s => match s.2.1[i]? with
  | some (.inl (.inl x)) => some (.inl (s.1 + len, (am_cl s.2.1 i).set i (vI (am_w (x + n))), s.2.2.1, s.2.2.2))
  | _ => none
def am_bin (f : Int → Int → Option Int) : am_F := fun len _ _ s => match s.2.2.1 with
  | (.inl (.inl y)) :: (.inl (.inl x)) :: st => (f x y).map (fun z => .inl (s.1 + len, s.2.1, vI z :: st, s.2.2.2))
  | _ => none
def am_binl (f : Int → Int → Option Int) : am_F := fun len _ _ s => match s.2.2.1 with
  | (.inl (.inr y)) :: (.inl (.inr x)) :: st => (f x y).map (fun z => .inl (s.1 + len, s.2.1, vL z :: st, s.2.2.2))
  | _ => none
def am_shl (f : Int → Int → Option Int) : am_F := fun len _ _ s => match s.2.2.1 with
  | (.inl (.inl y)) :: (.inl (.inr x)) :: st => (f x y).map (fun z => .inl (s.1 + len, s.2.1, vL z :: st, s.2.2.2))
  | _ => none
def am_un (f : Int → Int) : am_F := fun len _ _ s => match s.2.2.1 with
  | (.inl (.inl x)) :: st => some (.inl (s.1 + len, s.2.1, vI (f x) :: st, s.2.2.2))
  | _ => none
def am_unl (f : Int → Int) : am_F := fun len _ _ s => match s.2.2.1 with
  | (.inl (.inr x)) :: st => some (.inl (s.1 + len, s.2.1, vL (f x) :: st, s.2.2.2))
  | _ => none
def am_i2l : am_F := fun len _ _ s => match s.2.2.1 with
  | (.inl (.inl x)) :: st => some (.inl (s.1 + len, s.2.1, vL x :: st, s.2.2.2))
  | _ => none
def am_l2i : am_F := fun len _ _ s => match s.2.2.1 with
  | (.inl (.inr x)) :: st => some (.inl (s.1 + len, s.2.1, vI (am_w x) :: st, s.2.2.2))
  | _ => none
def am_lcmp : am_F := fun len _ _ s => match s.2.2.1 with
  | (.inl (.inr y)) :: (.inl (.inr x)) :: st => some (.inl (s.1 + len, s.2.1, vI (if x < y then -1 else if x = y then 0 else 1) :: st, s.2.2.2))
  | _ => none
def am_dup : am_F := fun len _ _ s => match s.2.2.1 with
  | v :: st => if am_is 0 v || am_is 2 v then some (.inl (s.1 + len, s.2.1, v :: v :: st, s.2.2.2)) else none
  | _ => none
def am_dup2 : am_F := fun len _ _ s => match s.2.2.1 with
  | v :: w :: st => if (am_is 0 v || am_is 2 v) && (am_is 0 w || am_is 2 w) then some (.inl (s.1 + len, s.2.1, v :: w :: v :: w :: st, s.2.2.2)) else none
  | _ => none
def am_pop (k : Nat) : am_F := fun len _ _ s => match s.2.2.1 with
  | v :: st => if am_is k v then some (.inl (s.1 + len, s.2.1, st, s.2.2.2)) else none
  | _ => none
def am_cmp (c : Jvm.ClassFile.Cond) (x y : Int) : Bool := match c with
  | .eq => decide (x = y)
  | .ne => decide (¬ x = y)
  | .lt => decide (x < y)
  | .ge => decide (¬ x < y)
  | .gt => decide (y < x)
  | .le => decide (¬ y < x)
def am_if (c : Jvm.ClassFile.Cond) : am_F := fun len x _ s => match s.2.2.1 with
  | (.inl (.inl a)) :: st => some (.inl ((if am_cmp c a 0 then x else s.1 + len), s.2.1, st, s.2.2.2))
  | _ => none
def am_icmp (c : Jvm.ClassFile.Cond) : am_F := fun len x _ s => match s.2.2.1 with
  | (.inl (.inl b)) :: (.inl (.inl a)) :: st => some (.inl ((if am_cmp c a b then x else s.1 + len), s.2.1, st, s.2.2.2))
  | _ => none
def am_goto : am_F := fun _ x _ s => some (.inl (x, s.2.1, s.2.2.1, s.2.2.2))
def am_sw (d lo hi : Int) (offs : Array Int) : am_F := fun _ _ _ s => match s.2.2.1 with
  | (.inl (.inl a)) :: st => if a < lo ∨ hi < a then some (.inl (((s.1 : Int) + d).toNat, s.2.1, st, s.2.2.2)) else (match offs[(a - lo).toNat]? with
    | some o => some (.inl (((s.1 : Int) + o).toNat, s.2.1, st, s.2.2.2))
    | none => none)
  | _ => none
/-- the kind of a field's values: 0 int, 1 boolean, 2 long, 3 a reference -/
abbrev am_ft : Type := Nat → Nat → Nat
def am_fok (k : Nat) (v : am_V) : Bool := match v with
  | .inl (.inl x) => k == 0 || (k == 1 && (decide (x = 0) || decide (x = 1)))
  | .inl (.inr _) => k == 2
  | .inr (some _) => k == 3
  | .inr none => false
def am_gf : am_F := fun len x y s => match s.2.2.1 with
  | (.inr (some (some a))) :: st => if a < s.2.2.2.1 ∧ (s.2.2.2.2.2 a).1 = 10 + x ∧ y < (s.2.2.2.2.2 a).2.1 then some (.inl (s.1 + len, s.2.1, (s.2.2.2.2.2 a).2.2 y :: st, s.2.2.2)) else none
  | _ => none
def am_pf (ft : am_ft) : am_F := fun len x y s => match s.2.2.1 with
  | v :: (.inr (some (some a))) :: st => if a < s.2.2.2.1 ∧ (s.2.2.2.2.2 a).1 = 10 + x ∧ y < (s.2.2.2.2.2 a).2.1 ∧ am_fok (ft x y) v = true then some (.inl (s.1 + len, s.2.1, st, am_wr s.2.2.2 a y v)) else none
  | _ => none
def am_ald (ok : Nat → Bool) : am_F := fun len _ _ s => match s.2.2.1 with
  | (.inl (.inl i)) :: (.inr (some (some a))) :: st => if a < s.2.2.2.1 ∧ ok (s.2.2.2.2.2 a).1 = true ∧ 0 ≤ i ∧ i < ((s.2.2.2.2.2 a).2.1 : Int) then some (.inl (s.1 + len, s.2.1, (s.2.2.2.2.2 a).2.2 i.toNat :: st, s.2.2.2)) else none
  | _ => none
def am_ast (k : Nat) (vk : Nat) : am_F := fun len _ _ s => match s.2.2.1 with
  | v :: (.inl (.inl i)) :: (.inr (some (some a))) :: st => if a < s.2.2.2.1 ∧ (s.2.2.2.2.2 a).1 = k ∧ am_fok vk v = true ∧ 0 ≤ i ∧ i < ((s.2.2.2.2.2 a).2.1 : Int) then some (.inl (s.1 + len, s.2.1, st, am_wr s.2.2.2 a i.toNat v)) else none
  | _ => none
/-- the class of what an array of kind k holds -/
def am_comp (k : Nat) : Nat := match k with
  | 4 => 10
  | 5 => 12
  | _ => 13
def am_aast : am_F := fun len _ _ s => match s.2.2.1 with
  | (.inr (some (some v))) :: (.inl (.inl i)) :: (.inr (some (some a))) :: st => if a < s.2.2.2.1 ∧ v < s.2.2.2.1 ∧ 4 ≤ (s.2.2.2.2.2 a).1 ∧ (s.2.2.2.2.2 a).1 < 7 ∧ (s.2.2.2.2.2 v).1 = am_comp (s.2.2.2.2.2 a).1 ∧ 0 ≤ i ∧ i < ((s.2.2.2.2.2 a).2.1 : Int) then some (.inl (s.1 + len, s.2.1, st, am_wr s.2.2.2 a i.toNat (vR v))) else none
  | _ => none
def am_len : am_F := fun len _ _ s => match s.2.2.1 with
  | (.inr (some (some a))) :: st => if a < s.2.2.2.1 ∧ (s.2.2.2.2.2 a).1 < 7 then some (.inl (s.1 + len, s.2.1, vI ((s.2.2.2.2.2 a).2.1 : Int) :: st, s.2.2.2)) else none
  | _ => none
def am_dv (kd : Nat) : am_V := match kd with
  | 0 => vI 0
  | 1 => vI 0
  | 2 => vL 0
  | _ => vN
def am_new (ft : am_ft) : am_F := fun len x y s => some (.inl (s.1 + len, s.2.1, vR s.2.2.2.1 :: s.2.2.1, am_mk s.2.2.2 (10 + x) y (fun j => am_dv (ft x j))))
def am_newa (lo hi : Nat) : am_F := fun len x _ s => match s.2.2.1 with
  | (.inl (.inl n)) :: st => if 0 ≤ n ∧ n ≤ 1024 ∧ lo ≤ x ∧ x ≤ hi then some (.inl (s.1 + len, s.2.1, vR s.2.2.2.1 :: st, am_mk s.2.2.2 x n.toNat (fun _ => am_dv x))) else none
  | _ => none
/-- a row of n rows of k places: the outer cell, the rows behind it -/
def am_grid (h : am_H) (n k : Nat) : am_H := (h.1 + 1 + n, h.2.1 + n + n * k, fun j => if j = h.1 then (3, n, fun i => if i < n then vR (h.1 + 1 + i) else vN) else if h.1 < j ∧ j < h.1 + 1 + n then (0, k, fun _ => vI 0) else h.2.2 j)
def am_mna : am_F := fun len _ _ s => match s.2.2.1 with
  | (.inl (.inl k)) :: (.inl (.inl n)) :: st => if 0 ≤ n ∧ n ≤ 1024 ∧ 0 ≤ k ∧ k ≤ 1024 then some (.inl (s.1 + len, s.2.1, vR s.2.2.2.1 :: st, am_grid s.2.2.2 n.toNat k.toNat)) else none
  | _ => none
def am_cpy {α : Type} (f g : Nat → α) (sp dp n : Nat) : Nat → α := fun j => if dp ≤ j ∧ j < dp + n then f (sp + (j - dp)) else g j
def am_acopy : am_F := fun len _ _ s => match s.2.2.1 with
  | (.inl (.inl n)) :: (.inl (.inl dp)) :: (.inr (some (some b))) :: (.inl (.inl sp)) :: (.inr (some (some a))) :: [] =>
    if a < s.2.2.2.1 ∧ b < s.2.2.2.1 ∧ (s.2.2.2.2.2 a).1 = (s.2.2.2.2.2 b).1 ∧ ((s.2.2.2.2.2 a).1 = 0 ∨ (s.2.2.2.2.2 a).1 = 2) ∧ 0 ≤ n ∧ 0 ≤ sp ∧ 0 ≤ dp ∧ sp + n ≤ ((s.2.2.2.2.2 a).2.1 : Int) ∧ dp + n ≤ ((s.2.2.2.2.2 b).2.1 : Int) then
      some (.inl (s.1 + len, s.2.1, [], (s.2.2.2.1, s.2.2.2.2.1, am_up s.2.2.2.2.2 b ((s.2.2.2.2.2 b).1, (s.2.2.2.2.2 b).2.1, am_cpy (s.2.2.2.2.2 a).2.2 (s.2.2.2.2.2 b).2.2 sp.toNat dp.toNat n.toNat)))) else none
  | _ => none
def am_cat (v : am_V) : Nat := match v with
  | .inl (.inr _) => 2
  | _ => 1
/-- from 1000 on: a call on an object of class x / 1000 - 1 -/
def am_rcv (h : am_H) (x : Nat) (as : List am_V) : Bool := if x < 1000 then true else (match as with
  | .inr (some (some a)) :: _ => decide (a < h.1) && decide ((h.2.2 a).1 = 9 + x / 1000)
  | _ => false)
/-- a call: x % 1000 the method's number, y how many arguments. 900: Object.<init>; 901: arraycopy -/
def am_inv : am_F := fun len x y s =>
  if x = 900 then (match s.2.2.1 with
    | (.inr (some (some _))) :: [] => some (.inl (s.1 + len, s.2.1, [], s.2.2.2))
    | _ => none)
  else if x = 901 then am_acopy len x y s
  else if y ≤ s.2.2.1.length ∧ ((s.2.2.1.drop y).map am_cat).sum ≤ 8 ∧ am_rcv s.2.2.2 x (s.2.2.1.take y).reverse = true then some (.inr (.inl (x % 1000, (s.2.2.1.take y).reverse, s.1 + len, s.2.1, s.2.2.1.drop y, s.2.2.2))) else none
/-- x: 0 an int, 1 a boolean, 2 a long -/
def am_ret : am_F := fun _ x _ s => match s.2.2.1 with
  | [v] => if am_fok x v then some (.inr (.inr (some v, s.2.2.2))) else none
  | _ => none
def am_retv : am_F := fun _ _ _ s => match s.2.2.1 with
  | [] => some (.inr (.inr (none, s.2.2.2)))
  | _ => none
def am_no : am_F := fun _ _ _ _ => none
def am_cst (x y : Nat) : Int := if x = 0 then (y : Int) else Int.negSucc y
def am_ldc : am_F := fun len x y s => some (.inl (s.1 + len, s.2.1, vI (am_cst x y) :: s.2.2.1, s.2.2.2))
def am_ldc2 : am_F := fun len x y s => some (.inl (s.1 + len, s.2.1, vL (am_cst x y) :: s.2.2.1, s.2.2.2))
def am_div (x y : Int) : Option Int := if y = 0 then none else some (am_w (x.tdiv y))
def am_rem (x y : Int) : Option Int := if y = 0 then none else some (x.tmod y)
def am_divl (x y : Int) : Option Int := if y = 0 then none else some (am_wl (x.tdiv y))
def am_and (x y : Int) : Int := (Int32.ofInt x &&& Int32.ofInt y).toInt
def am_xor (x y : Int) : Int := (Int32.ofInt x ^^^ Int32.ofInt y).toInt
def am_andl (x y : Int) : Int := (Int64.ofInt x &&& Int64.ofInt y).toInt
def am_orl (x y : Int) : Int := (Int64.ofInt x ||| Int64.ofInt y).toInt
def am_shi (x y : Int) : Int := (Int32.ofInt x <<< (Int32.ofInt y &&& 31)).toInt
def am_shri (x y : Int) : Int := (Int32.ofInt x >>> (Int32.ofInt y &&& 31)).toInt
def am_shlL (x y : Int) : Int := (Int64.ofInt x <<< ((Int32.ofInt y).toInt64 &&& 63)).toInt
def am_shrL (x y : Int) : Int := (Int64.ofInt x >>> ((Int32.ofInt y).toInt64 &&& 63)).toInt
def am_ushL (x y : Int) : Int := ((Int64.ofInt x).toUInt64 >>> ((Int32.ofInt y).toInt64.toUInt64 &&& Int64.toUInt64 63)).toInt64.toInt
def am_sem (ft : am_ft) (ins : Instr) : am_F := match ins with
  | .iconst n => am_push (vI n)
  | .bipush n => am_push (vI n)
  | .sipush n => am_push (vI n)
  | .lconst n => am_push (vL (n.val : Int))
  | .ldc _ => am_ldc
  | .ldc2_w _ => am_ldc2
  | .iload_n k => am_load 0 k.val
  | .iload k => am_load 0 k
  | .lload_n k => am_load 1 k.val
  | .lload k => am_load 1 k
  | .aload_n k => am_load 2 k.val
  | .aload k => am_load 2 k
  | .istore_n k => am_stor 0 k.val
  | .istore k => am_stor 0 k
  | .lstore_n k => am_storl k.val
  | .lstore k => am_storl k
  | .astore_n k => am_stor 2 k.val
  | .astore k => am_stor 2 k
  | .iinc k n => am_iinc k n
  | .iadd => am_bin (fun x y => some (am_w (x + y)))
  | .isub => am_bin (fun x y => some (am_w (x - y)))
  | .imul => am_bin (fun x y => some (am_w (x * y)))
  | .idiv => am_bin am_div
  | .irem => am_bin am_rem
  | .ineg => am_un (fun x => am_w (-x))
  | .iand => am_bin (fun x y => some (am_and x y))
  | .ixor => am_bin (fun x y => some (am_xor x y))
  | .ishl => am_bin (fun x y => some (am_shi x y))
  | .ishr => am_bin (fun x y => some (am_shri x y))
  | .ladd => am_binl (fun x y => some (am_wl (x + y)))
  | .lmul => am_binl (fun x y => some (am_wl (x * y)))
  | .ldiv => am_binl am_divl
  | .lneg => am_unl (fun x => am_wl (-x))
  | .land => am_binl (fun x y => some (am_andl x y))
  | .lor => am_binl (fun x y => some (am_orl x y))
  | .lshl => am_shl (fun x y => some (am_shlL x y))
  | .lshr => am_shl (fun x y => some (am_shrL x y))
  | .lushr => am_shl (fun x y => some (am_ushL x y))
  | .lcmp => am_lcmp
  | .i2l => am_i2l
  | .l2i => am_l2i
  | .ifCond c _ => am_if c
  | .if_icmp c _ => am_icmp c
  | .goto _ => am_goto
  | .tableswitch d lo hi offs => am_sw d lo hi offs
  | .getfield _ => am_gf
  | .putfield _ => am_pf ft
  | .iaload => am_ald (fun k => k == 0)
  | .baload => am_ald (fun k => k == 1)
  | .laload => am_ald (fun k => k == 2)
  | .aaload => am_ald (fun k => decide (3 ≤ k) && decide (k < 7))
  | .iastore => am_ast 0 0
  | .bastore => am_ast 1 1
  | .lastore => am_ast 2 2
  | .aastore => am_aast
  | .arraylength => am_len
  | .new _ => am_new ft
  | .newarray _ => am_newa 0 2
  | .anewarray _ => am_newa 4 6
  | .multianewarray _ _ => am_mna
  | .dup => am_dup
  | .dup2 => am_dup2
  | .pop => am_pop 0
  | .pop2 => am_pop 1
  | .invokevirtual _ => am_inv
  | .invokestatic _ => am_inv
  | .invokespecial _ => am_inv
  | .ireturn => am_ret
  | .lreturn => am_ret
  | .return_ => am_retv
  | _ => am_no
/-- a program: the fields' kinds; code and number of locals of each method -/
abbrev am_P : Type := am_ft × List (am_C × Nat)
def am_row (C : am_C) (pc : Nat) : Option am_I := (C[pc / 32]?).bind (fun l => (l[pc % 32]?).bind (fun o => o))
def am_1 (ft : am_ft) (C : am_C) (s : am_S) : am_R := match am_row C s.1 with
  | some row => am_sem ft row.1 row.2.1 row.2.2.1 row.2.2.2 s
  | none => none
/-- the locals at a method's entry -/
def am_pad : Nat → List am_V → List am_V
  | 0, _ => []
  | n + 1, [] => vU :: am_pad n []
  | n + 1, .inl (.inr x) :: l => vL x :: (match n with | 0 => [] | n + 1 => vU :: am_pad n l)
  | n + 1, v :: l => v :: am_pad n l
/-- a run of at most n steps from a state to the method's end -/
def am_x (P : am_P) : Nat → am_C → am_S → Option (Option am_V × am_H)
  | 0, _, _ => none
  | n + 1, C, s => match am_1 P.1 C s with
    | none => none
    | some (.inl t) => am_x P n C t
    | some (.inr (.inl q)) => (match P.2[q.1]? with
      | none => none
      | some M => if (q.2.1.map am_cat).sum ≤ M.2 then (match am_x P n M.1 (0, am_pad M.2 q.2.1, [], q.2.2.2.2.2) with
        | none => none
        | some r => am_x P n C (q.2.2.1, q.2.2.2.1, r.1.toList ++ q.2.2.2.2.1, r.2)) else none)
    | some (.inr (.inr r)) => some r
end
section
/-! The code of every method as rows of the small machine: printed by wip/p20/gen.py out of the listing. -/
-- StrandBoxes$Boxes.<init>(I)V
def ac_X0_init : am_C := [[some (.aload_n 0, 1, 0, 0), some (.invokespecial 3, 3, 900, 1), none, none, some (.aload_n 0, 1, 0, 0), some (.iload_n 1, 1, 0, 0), some (.putfield 9, 3, 0, 0), none, none, some (.aload_n 0, 1, 0, 0), some (.iconst 2, 1, 0, 0), some (.iload_n 1, 1, 0, 0), some (.imul, 1, 0, 0), some (.putfield 15, 3, 0, 1), none, none, some (.aload_n 0, 1, 0, 0), some (.iconst 2, 1, 0, 0), some (.iload_n 1, 1, 0, 0), some (.iconst 1, 1, 0, 0), some (.isub, 1, 0, 0), some (.imul, 1, 0, 0), some (.putfield 18, 3, 0, 2), none, none, some (.aload_n 0, 1, 0, 0), some (.aload_n 0, 1, 0, 0), some (.getfield 15, 3, 0, 1), none, none, some (.invokestatic 21, 3, 1, 1), none],
  [none, some (.putfield 25, 3, 0, 3), none, none, some (.aload_n 0, 1, 0, 0), some (.aload_n 0, 1, 0, 0), some (.getfield 25, 3, 0, 3), none, none, some (.aload_n 0, 1, 0, 0), some (.getfield 15, 3, 0, 1), none, none, some (.multianewarray 28 2, 4, 3, 0), none, none, none, some (.putfield 30, 3, 0, 4), none, none, some (.aload_n 0, 1, 0, 0), some (.aload_n 0, 1, 0, 0), some (.getfield 25, 3, 0, 3), none, none, some (.newarray .int, 2, 0, 0), none, some (.putfield 33, 3, 0, 5), none, none, some (.aload_n 0, 1, 0, 0), some (.aload_n 0, 1, 0, 0)],
  [some (.getfield 25, 3, 0, 3), none, none, some (.newarray .int, 2, 0, 0), none, some (.putfield 37, 3, 0, 6), none, none, some (.aload_n 0, 1, 0, 0), some (.aload_n 0, 1, 0, 0), some (.getfield 25, 3, 0, 3), none, none, some (.bipush 6, 2, 0, 0), none, some (.multianewarray 28 2, 4, 3, 0), none, none, none, some (.putfield 40, 3, 0, 7), none, none, some (.aload_n 0, 1, 0, 0), some (.aload_n 0, 1, 0, 0), some (.getfield 25, 3, 0, 3), none, none, some (.aload_n 0, 1, 0, 0), some (.getfield 18, 3, 0, 2), none, none, some (.multianewarray 28 2, 4, 3, 0)],
  [none, none, none, some (.putfield 43, 3, 0, 8), none, none, some (.aload_n 0, 1, 0, 0), some (.aload_n 0, 1, 0, 0), some (.getfield 15, 3, 0, 1), none, none, some (.newarray .int, 2, 0, 0), none, some (.putfield 46, 3, 0, 9), none, none, some (.aload_n 0, 1, 0, 0), some (.aload_n 0, 1, 0, 0), some (.getfield 15, 3, 0, 1), none, none, some (.newarray .boolean, 2, 1, 0), none, some (.putfield 49, 3, 0, 10), none, none, some (.aload_n 0, 1, 0, 0), some (.invokevirtual 53, 3, 1002, 1), none, none, some (.iconst 0, 1, 0, 0), some (.istore_n 2, 1, 0, 0)],
  [some (.iload_n 2, 1, 0, 0), some (.aload_n 0, 1, 0, 0), some (.getfield 25, 3, 0, 3), none, none, some (.if_icmp .ge 25, 3, 158, 0), none, none, some (.aload_n 0, 1, 0, 0), some (.getfield 33, 3, 0, 5), none, none, some (.iload_n 2, 1, 0, 0), some (.aload_n 0, 1, 0, 0), some (.aload_n 0, 1, 0, 0), some (.getfield 30, 3, 0, 4), none, none, some (.iload_n 2, 1, 0, 0), some (.aaload, 1, 0, 0), some (.invokevirtual 56, 3, 1014, 2), none, none, some (.iastore, 1, 0, 0), some (.iinc 2 1, 3, 0, 0), none, none, some (.goto (-27), 3, 128, 0), none, none, some (.aload_n 0, 1, 0, 0), some (.invokevirtual 60, 3, 1016, 1)],
  [none, none, some (.aload_n 0, 1, 0, 0), some (.invokevirtual 63, 3, 1025, 1), none, none, some (.return_, 1, 0, 0)]]
-- StrandBoxes$Boxes.countPairings(I)I
def ac_X0_countPairings : am_C := [[some (.iconst 1, 1, 0, 0), some (.istore_n 1, 1, 0, 0), some (.iload_n 0, 1, 0, 0), some (.iconst 1, 1, 0, 0), some (.isub, 1, 0, 0), some (.istore_n 2, 1, 0, 0), some (.iload_n 2, 1, 0, 0), some (.iconst 1, 1, 0, 0), some (.if_icmp .le 13, 3, 21, 0), none, none, some (.iload_n 1, 1, 0, 0), some (.iload_n 2, 1, 0, 0), some (.imul, 1, 0, 0), some (.istore_n 1, 1, 0, 0), some (.iinc 2 (-2), 3, 0, 0), none, none, some (.goto (-12), 3, 6, 0), none, none, some (.iload_n 1, 1, 0, 0), some (.ireturn, 1, 0, 0)]]
-- StrandBoxes$Boxes.listPairings()V
def ac_X0_listPairings : am_C := [[some (.aload_n 0, 1, 0, 0), some (.getfield 9, 3, 0, 0), none, none, some (.newarray .int, 2, 0, 0), none, some (.astore_n 1, 1, 0, 0), some (.iconst 0, 1, 0, 0), some (.istore_n 2, 1, 0, 0), some (.iload_n 2, 1, 0, 0), some (.aload_n 0, 1, 0, 0), some (.getfield 25, 3, 0, 3), none, none, some (.if_icmp .ge 25, 3, 39, 0), none, none, some (.aload_n 0, 1, 0, 0), some (.aload_n 1, 1, 0, 0), some (.aload_n 0, 1, 0, 0), some (.getfield 30, 3, 0, 4), none, none, some (.iload_n 2, 1, 0, 0), some (.aaload, 1, 0, 0), some (.invokevirtual 66, 3, 1003, 3), none, none, some (.aload_n 0, 1, 0, 0), some (.aload_n 1, 1, 0, 0), some (.invokevirtual 70, 3, 1005, 2), none],
  [none, some (.iinc 2 1, 3, 0, 0), none, none, some (.goto (-27), 3, 9, 0), none, none, some (.return_, 1, 0, 0)]]
-- StrandBoxes$Boxes.pairBy([I[I)V
def ac_X0_pairBy : am_C := [[some (.aload_n 0, 1, 0, 0), some (.invokevirtual 74, 3, 1015, 1), none, none, some (.iconst 0, 1, 0, 0), some (.istore_n 3, 1, 0, 0), some (.iconst 0, 1, 0, 0), some (.istore 4, 2, 0, 0), none, some (.iload 4, 2, 0, 0), none, some (.aload_n 0, 1, 0, 0), some (.getfield 15, 3, 0, 1), none, none, some (.iconst 1, 1, 0, 0), some (.isub, 1, 0, 0), some (.if_icmp .ge 65, 3, 82, 0), none, none, some (.iload_n 3, 1, 0, 0), some (.aload_n 0, 1, 0, 0), some (.getfield 9, 3, 0, 0), none, none, some (.if_icmp .ge 57, 3, 82, 0), none, none, some (.aload_n 0, 1, 0, 0), some (.getfield 49, 3, 0, 10), none, none],
  [some (.iload 4, 2, 0, 0), none, some (.baload, 1, 0, 0), some (.ifCond .ne 41, 3, 76, 0), none, none, some (.aload_n 0, 1, 0, 0), some (.iload 4, 2, 0, 0), none, some (.aload_n 1, 1, 0, 0), some (.iload_n 3, 1, 0, 0), some (.iaload, 1, 0, 0), some (.invokevirtual 77, 3, 1004, 3), none, none, some (.istore 5, 2, 0, 0), none, some (.aload_n 0, 1, 0, 0), some (.getfield 49, 3, 0, 10), none, none, some (.iload 4, 2, 0, 0), none, some (.iconst 1, 1, 0, 0), some (.bastore, 1, 0, 0), some (.aload_n 0, 1, 0, 0), some (.getfield 49, 3, 0, 10), none, none, some (.iload 5, 2, 0, 0), none, some (.iconst 1, 1, 0, 0)],
  [some (.bastore, 1, 0, 0), some (.aload_n 2, 1, 0, 0), some (.iload 4, 2, 0, 0), none, some (.iload 5, 2, 0, 0), none, some (.invokestatic 81, 3, 20, 3), none, none, some (.iinc 3 1, 3, 0, 0), none, none, some (.iinc 4 1, 3, 0, 0), none, none, some (.goto (-70), 3, 9, 0), none, none, some (.return_, 1, 0, 0)]]
-- StrandBoxes$Boxes.freeBehind(II)I
def ac_X0_freeBehind : am_C := [[some (.iload_n 2, 1, 0, 0), some (.istore_n 3, 1, 0, 0), some (.iload_n 1, 1, 0, 0), some (.iconst 1, 1, 0, 0), some (.iadd, 1, 0, 0), some (.istore 4, 2, 0, 0), none, some (.iload 4, 2, 0, 0), none, some (.aload_n 0, 1, 0, 0), some (.getfield 15, 3, 0, 1), none, none, some (.iconst 1, 1, 0, 0), some (.isub, 1, 0, 0), some (.if_icmp .ge 41, 3, 56, 0), none, none, some (.aload_n 0, 1, 0, 0), some (.getfield 49, 3, 0, 10), none, none, some (.iload 4, 2, 0, 0), none, some (.baload, 1, 0, 0), some (.ifCond .ne 7, 3, 32, 0), none, none, some (.iload_n 3, 1, 0, 0), some (.ifCond .le 27, 3, 56, 0), none, none],
  [some (.iload_n 3, 1, 0, 0), some (.aload_n 0, 1, 0, 0), some (.getfield 49, 3, 0, 10), none, none, some (.iload 4, 2, 0, 0), none, some (.baload, 1, 0, 0), some (.ifCond .eq 7, 3, 47, 0), none, none, some (.iconst 0, 1, 0, 0), some (.goto 4, 3, 48, 0), none, none, some (.iconst 1, 1, 0, 0), some (.isub, 1, 0, 0), some (.istore_n 3, 1, 0, 0), some (.iinc 4 1, 3, 0, 0), none, none, some (.goto (-46), 3, 7, 0), none, none, some (.iload 4, 2, 0, 0), none, some (.ireturn, 1, 0, 0)]]
-- StrandBoxes$Boxes.countUp([I)V
def ac_X0_countUp : am_C := [[some (.aload_n 0, 1, 0, 0), some (.getfield 9, 3, 0, 0), none, none, some (.iconst 1, 1, 0, 0), some (.isub, 1, 0, 0), some (.istore_n 2, 1, 0, 0), some (.iload_n 2, 1, 0, 0), some (.ifCond .lt 29, 3, 37, 0), none, none, some (.aload_n 1, 1, 0, 0), some (.iload_n 2, 1, 0, 0), some (.iaload, 1, 0, 0), some (.aload_n 0, 1, 0, 0), some (.getfield 15, 3, 0, 1), none, none, some (.iconst 2, 1, 0, 0), some (.iload_n 2, 1, 0, 0), some (.imul, 1, 0, 0), some (.isub, 1, 0, 0), some (.iconst 2, 1, 0, 0), some (.isub, 1, 0, 0), some (.if_icmp .lt 13, 3, 37, 0), none, none, some (.aload_n 1, 1, 0, 0), some (.iload_n 2, 1, 0, 0), some (.iconst 0, 1, 0, 0), some (.iastore, 1, 0, 0), some (.iinc 2 (-1), 3, 0, 0)],
  [none, none, some (.goto (-27), 3, 7, 0), none, none, some (.iload_n 2, 1, 0, 0), some (.ifCond .lt 10, 3, 48, 0), none, none, some (.aload_n 1, 1, 0, 0), some (.iload_n 2, 1, 0, 0), some (.dup2, 1, 0, 0), some (.iaload, 1, 0, 0), some (.iconst 1, 1, 0, 0), some (.iadd, 1, 0, 0), some (.iastore, 1, 0, 0), some (.return_, 1, 0, 0)]]
-- StrandBoxes$Boxes.numberOf([I)I
def ac_X0_numberOf : am_C := [[some (.iconst 0, 1, 0, 0), some (.istore_n 2, 1, 0, 0), some (.aload_n 0, 1, 0, 0), some (.getfield 15, 3, 0, 1), none, none, some (.iconst 1, 1, 0, 0), some (.isub, 1, 0, 0), some (.istore_n 3, 1, 0, 0), some (.iconst 0, 1, 0, 0), some (.istore 4, 2, 0, 0), none, some (.iload 4, 2, 0, 0), none, some (.aload_n 0, 1, 0, 0), some (.getfield 15, 3, 0, 1), none, none, some (.if_icmp .ge 71, 3, 89, 0), none, none, some (.aload_n 1, 1, 0, 0), some (.iload 4, 2, 0, 0), none, some (.iaload, 1, 0, 0), some (.iload 4, 2, 0, 0), none, some (.if_icmp .le 56, 3, 83, 0), none, none, some (.iconst 0, 1, 0, 0), some (.istore 5, 2, 0, 0)],
  [none, some (.iload 4, 2, 0, 0), none, some (.iconst 1, 1, 0, 0), some (.iadd, 1, 0, 0), some (.istore 6, 2, 0, 0), none, some (.iload 6, 2, 0, 0), none, some (.aload_n 1, 1, 0, 0), some (.iload 4, 2, 0, 0), none, some (.iaload, 1, 0, 0), some (.if_icmp .ge 28, 3, 73, 0), none, none, some (.iload 5, 2, 0, 0), none, some (.aload_n 1, 1, 0, 0), some (.iload 6, 2, 0, 0), none, some (.iaload, 1, 0, 0), some (.iload 4, 2, 0, 0), none, some (.if_icmp .le 7, 3, 63, 0), none, none, some (.iconst 1, 1, 0, 0), some (.goto 4, 3, 64, 0), none, none, some (.iconst 0, 1, 0, 0)],
  [some (.iadd, 1, 0, 0), some (.istore 5, 2, 0, 0), none, some (.iinc 6 1, 3, 0, 0), none, none, some (.goto (-31), 3, 39, 0), none, none, some (.iload_n 2, 1, 0, 0), some (.iload_n 3, 1, 0, 0), some (.imul, 1, 0, 0), some (.iload 5, 2, 0, 0), none, some (.iadd, 1, 0, 0), some (.istore_n 2, 1, 0, 0), some (.iinc 3 (-2), 3, 0, 0), none, none, some (.iinc 4 1, 3, 0, 0), none, none, some (.goto (-74), 3, 12, 0), none, none, some (.iload_n 2, 1, 0, 0), some (.ireturn, 1, 0, 0)]]
-- StrandBoxes$Boxes.countPlane()I
def ac_X0_countPlane : am_C := [[some (.iconst 0, 1, 0, 0), some (.istore_n 1, 1, 0, 0), some (.iconst 0, 1, 0, 0), some (.istore_n 2, 1, 0, 0), some (.iload_n 2, 1, 0, 0), some (.aload_n 0, 1, 0, 0), some (.getfield 25, 3, 0, 3), none, none, some (.if_icmp .ge 25, 3, 34, 0), none, none, some (.iload_n 1, 1, 0, 0), some (.aload_n 0, 1, 0, 0), some (.iload_n 2, 1, 0, 0), some (.invokevirtual 85, 3, 1008, 2), none, none, some (.ifCond .eq 7, 3, 25, 0), none, none, some (.iconst 1, 1, 0, 0), some (.goto 4, 3, 26, 0), none, none, some (.iconst 0, 1, 0, 0), some (.iadd, 1, 0, 0), some (.istore_n 1, 1, 0, 0), some (.iinc 2 1, 3, 0, 0), none, none, some (.goto (-27), 3, 4, 0)],
  [none, none, some (.iload_n 1, 1, 0, 0), some (.ireturn, 1, 0, 0)]]
-- StrandBoxes$Boxes.isPlane(I)Z
def ac_X0_isPlane : am_C := [[some (.aload_n 0, 1, 0, 0), some (.getfield 30, 3, 0, 4), none, none, some (.iload_n 1, 1, 0, 0), some (.aaload, 1, 0, 0), some (.astore_n 2, 1, 0, 0), some (.iconst 0, 1, 0, 0), some (.istore_n 3, 1, 0, 0), some (.iload_n 3, 1, 0, 0), some (.aload_n 0, 1, 0, 0), some (.getfield 15, 3, 0, 1), none, none, some (.if_icmp .ge 73, 3, 87, 0), none, none, some (.aload_n 0, 1, 0, 0), some (.iload_n 3, 1, 0, 0), some (.invokevirtual 89, 3, 1010, 2), none, none, some (.istore 4, 2, 0, 0), none, some (.aload_n 0, 1, 0, 0), some (.aload_n 2, 1, 0, 0), some (.iload_n 3, 1, 0, 0), some (.iaload, 1, 0, 0), some (.invokevirtual 89, 3, 1010, 2), none, none, some (.istore 5, 2, 0, 0)],
  [none, some (.iconst 0, 1, 0, 0), some (.istore 6, 2, 0, 0), none, some (.iload 6, 2, 0, 0), none, some (.aload_n 0, 1, 0, 0), some (.getfield 15, 3, 0, 1), none, none, some (.if_icmp .ge 39, 3, 81, 0), none, none, some (.aload_n 0, 1, 0, 0), some (.iload 4, 2, 0, 0), none, some (.iload 5, 2, 0, 0), none, some (.iload 6, 2, 0, 0), none, some (.invokevirtual 92, 3, 1009, 4), none, none, some (.ifCond .eq 20, 3, 75, 0), none, none, some (.aload_n 0, 1, 0, 0), some (.iload 4, 2, 0, 0), none, some (.iload 5, 2, 0, 0), none, some (.aload_n 2, 1, 0, 0)],
  [some (.iload 6, 2, 0, 0), none, some (.iaload, 1, 0, 0), some (.invokevirtual 92, 3, 1009, 4), none, none, some (.ifCond .ne 5, 3, 75, 0), none, none, some (.iconst 0, 1, 0, 0), some (.ireturn, 1, 1, 0), some (.iinc 6 1, 3, 0, 0), none, none, some (.goto (-42), 3, 36, 0), none, none, some (.iinc 3 1, 3, 0, 0), none, none, some (.goto (-75), 3, 9, 0), none, none, some (.iconst 1, 1, 0, 0), some (.ireturn, 1, 1, 0)]]
-- StrandBoxes$Boxes.isBetween(III)Z
def ac_X0_isBetween : am_C := [[some (.aload_n 0, 1, 0, 0), some (.iload_n 3, 1, 0, 0), some (.invokevirtual 89, 3, 1010, 2), none, none, some (.istore 4, 2, 0, 0), none, some (.iload_n 1, 1, 0, 0), some (.iload 4, 2, 0, 0), none, some (.if_icmp .ge 13, 3, 23, 0), none, none, some (.iload 4, 2, 0, 0), none, some (.iload_n 2, 1, 0, 0), some (.if_icmp .ge 7, 3, 23, 0), none, none, some (.iconst 1, 1, 0, 0), some (.goto 4, 3, 24, 0), none, none, some (.iconst 0, 1, 0, 0), some (.ireturn, 1, 1, 0)]]
-- StrandBoxes$Boxes.placeRound(I)I
def ac_X0_placeRound : am_C := [[some (.iload_n 1, 1, 0, 0), some (.aload_n 0, 1, 0, 0), some (.getfield 9, 3, 0, 0), none, none, some (.if_icmp .ge 7, 3, 12, 0), none, none, some (.iload_n 1, 1, 0, 0), some (.goto 16, 3, 25, 0), none, none, some (.aload_n 0, 1, 0, 0), some (.getfield 9, 3, 0, 0), none, none, some (.aload_n 0, 1, 0, 0), some (.getfield 15, 3, 0, 1), none, none, some (.iadd, 1, 0, 0), some (.iconst 1, 1, 0, 0), some (.isub, 1, 0, 0), some (.iload_n 1, 1, 0, 0), some (.isub, 1, 0, 0), some (.ireturn, 1, 0, 0)]]
-- StrandBoxes$Boxes.countThrough(I)I
def ac_X0_countThrough : am_C := [[some (.iconst 0, 1, 0, 0), some (.istore_n 2, 1, 0, 0), some (.iconst 0, 1, 0, 0), some (.istore_n 3, 1, 0, 0), some (.iload_n 3, 1, 0, 0), some (.aload_n 0, 1, 0, 0), some (.getfield 9, 3, 0, 0), none, none, some (.if_icmp .ge 32, 3, 41, 0), none, none, some (.iload_n 2, 1, 0, 0), some (.aload_n 0, 1, 0, 0), some (.getfield 30, 3, 0, 4), none, none, some (.iload_n 1, 1, 0, 0), some (.aaload, 1, 0, 0), some (.iload_n 3, 1, 0, 0), some (.iaload, 1, 0, 0), some (.aload_n 0, 1, 0, 0), some (.getfield 9, 3, 0, 0), none, none, some (.if_icmp .lt 7, 3, 32, 0), none, none, some (.iconst 1, 1, 0, 0), some (.goto 4, 3, 33, 0), none, none],
  [some (.iconst 0, 1, 0, 0), some (.iadd, 1, 0, 0), some (.istore_n 2, 1, 0, 0), some (.iinc 3 1, 3, 0, 0), none, none, some (.goto (-34), 3, 4, 0), none, none, some (.iload_n 2, 1, 0, 0), some (.ireturn, 1, 0, 0)]]
-- StrandBoxes$Boxes.upsideDown(I)I
def ac_X0_upsideDown : am_C := [[some (.iconst 0, 1, 0, 0), some (.istore_n 2, 1, 0, 0), some (.iload_n 2, 1, 0, 0), some (.aload_n 0, 1, 0, 0), some (.getfield 15, 3, 0, 1), none, none, some (.if_icmp .ge 31, 3, 38, 0), none, none, some (.aload_n 0, 1, 0, 0), some (.getfield 46, 3, 0, 9), none, none, some (.aload_n 0, 1, 0, 0), some (.iload_n 2, 1, 0, 0), some (.invokevirtual 96, 3, 1013, 2), none, none, some (.aload_n 0, 1, 0, 0), some (.aload_n 0, 1, 0, 0), some (.getfield 30, 3, 0, 4), none, none, some (.iload_n 1, 1, 0, 0), some (.aaload, 1, 0, 0), some (.iload_n 2, 1, 0, 0), some (.iaload, 1, 0, 0), some (.invokevirtual 96, 3, 1013, 2), none, none, some (.iastore, 1, 0, 0)],
  [some (.iinc 2 1, 3, 0, 0), none, none, some (.goto (-33), 3, 2, 0), none, none, some (.aload_n 0, 1, 0, 0), some (.aload_n 0, 1, 0, 0), some (.getfield 46, 3, 0, 9), none, none, some (.invokevirtual 99, 3, 1006, 2), none, none, some (.ireturn, 1, 0, 0)]]
-- StrandBoxes$Boxes.across(I)I
def ac_X0_across : am_C := [[some (.iload_n 1, 1, 0, 0), some (.aload_n 0, 1, 0, 0), some (.getfield 9, 3, 0, 0), none, none, some (.if_icmp .ge 12, 3, 17, 0), none, none, some (.iload_n 1, 1, 0, 0), some (.aload_n 0, 1, 0, 0), some (.getfield 9, 3, 0, 0), none, none, some (.iadd, 1, 0, 0), some (.goto 9, 3, 23, 0), none, none, some (.iload_n 1, 1, 0, 0), some (.aload_n 0, 1, 0, 0), some (.getfield 9, 3, 0, 0), none, none, some (.isub, 1, 0, 0), some (.ireturn, 1, 0, 0)]]
-- StrandBoxes$Boxes.closeRings([I)I
def ac_X0_closeRings : am_C := [[some (.aload_n 0, 1, 0, 0), some (.invokevirtual 74, 3, 1015, 1), none, none, some (.iconst 0, 1, 0, 0), some (.istore_n 2, 1, 0, 0), some (.iconst 0, 1, 0, 0), some (.istore_n 3, 1, 0, 0), some (.iload_n 3, 1, 0, 0), some (.aload_n 0, 1, 0, 0), some (.getfield 15, 3, 0, 1), none, none, some (.if_icmp .ge 82, 3, 95, 0), none, none, some (.aload_n 0, 1, 0, 0), some (.getfield 49, 3, 0, 10), none, none, some (.iload_n 3, 1, 0, 0), some (.baload, 1, 0, 0), some (.ifCond .ne 67, 3, 89, 0), none, none, some (.iinc 2 1, 3, 0, 0), none, none, some (.iload_n 3, 1, 0, 0), some (.istore 4, 2, 0, 0), none, some (.iconst 0, 1, 0, 0)],
  [some (.istore 5, 2, 0, 0), none, some (.iload 5, 2, 0, 0), none, some (.aload_n 0, 1, 0, 0), some (.getfield 15, 3, 0, 1), none, none, some (.if_icmp .ge 49, 3, 89, 0), none, none, some (.aload_n 0, 1, 0, 0), some (.getfield 49, 3, 0, 10), none, none, some (.iload 4, 2, 0, 0), none, some (.baload, 1, 0, 0), some (.ifCond .ne 39, 3, 89, 0), none, none, some (.aload_n 0, 1, 0, 0), some (.getfield 49, 3, 0, 10), none, none, some (.iload 4, 2, 0, 0), none, some (.iconst 1, 1, 0, 0), some (.bastore, 1, 0, 0), some (.aload_n 1, 1, 0, 0), some (.iload 4, 2, 0, 0), none],
  [some (.iaload, 1, 0, 0), some (.istore 4, 2, 0, 0), none, some (.aload_n 0, 1, 0, 0), some (.getfield 49, 3, 0, 10), none, none, some (.iload 4, 2, 0, 0), none, some (.iconst 1, 1, 0, 0), some (.bastore, 1, 0, 0), some (.aload_n 0, 1, 0, 0), some (.iload 4, 2, 0, 0), none, some (.invokevirtual 96, 3, 1013, 2), none, none, some (.istore 4, 2, 0, 0), none, some (.iinc 5 1, 3, 0, 0), none, none, some (.goto (-52), 3, 34, 0), none, none, some (.iinc 3 1, 3, 0, 0), none, none, some (.goto (-84), 3, 8, 0), none, none, some (.iload_n 2, 1, 0, 0)],
  [some (.ireturn, 1, 0, 0)]]
-- StrandBoxes$Boxes.forgetSeen()V
def ac_X0_forgetSeen : am_C := [[some (.iconst 0, 1, 0, 0), some (.istore_n 1, 1, 0, 0), some (.iload_n 1, 1, 0, 0), some (.aload_n 0, 1, 0, 0), some (.getfield 15, 3, 0, 1), none, none, some (.if_icmp .ge 16, 3, 23, 0), none, none, some (.aload_n 0, 1, 0, 0), some (.getfield 49, 3, 0, 10), none, none, some (.iload_n 1, 1, 0, 0), some (.iconst 0, 1, 0, 0), some (.bastore, 1, 0, 0), some (.iinc 1 1, 3, 0, 0), none, none, some (.goto (-18), 3, 2, 0), none, none, some (.return_, 1, 0, 0)]]
-- StrandBoxes$Boxes.stackLetters()V
def ac_X0_stackLetters : am_C := [[some (.iconst 0, 1, 0, 0), some (.istore_n 1, 1, 0, 0), some (.iload_n 1, 1, 0, 0), some (.aload_n 0, 1, 0, 0), some (.getfield 18, 3, 0, 2), none, none, some (.if_icmp .ge 59, 3, 66, 0), none, none, some (.aload_n 0, 1, 0, 0), some (.aload_n 0, 1, 0, 0), some (.iload_n 1, 1, 0, 0), some (.invokevirtual 102, 3, 1017, 2), none, none, some (.invokevirtual 105, 3, 1019, 2), none, none, some (.istore_n 2, 1, 0, 0), some (.iconst 0, 1, 0, 0), some (.istore_n 3, 1, 0, 0), some (.iload_n 3, 1, 0, 0), some (.aload_n 0, 1, 0, 0), some (.getfield 25, 3, 0, 3), none, none, some (.if_icmp .ge 33, 3, 60, 0), none, none, some (.aload_n 0, 1, 0, 0), some (.getfield 43, 3, 0, 8)],
  [none, none, some (.iload_n 3, 1, 0, 0), some (.aaload, 1, 0, 0), some (.iload_n 1, 1, 0, 0), some (.aload_n 0, 1, 0, 0), some (.aload_n 0, 1, 0, 0), some (.getfield 30, 3, 0, 4), none, none, some (.iload_n 3, 1, 0, 0), some (.aaload, 1, 0, 0), some (.aload_n 0, 1, 0, 0), some (.getfield 30, 3, 0, 4), none, none, some (.iload_n 2, 1, 0, 0), some (.aaload, 1, 0, 0), some (.invokevirtual 108, 3, 1022, 3), none, none, some (.iastore, 1, 0, 0), some (.iinc 3 1, 3, 0, 0), none, none, some (.goto (-35), 3, 22, 0), none, none, some (.iinc 1 1, 3, 0, 0), none, none, some (.goto (-61), 3, 2, 0)],
  [none, none, some (.return_, 1, 0, 0)]]
-- StrandBoxes$Boxes.letterAt(I)I
def ac_X0_letterAt : am_C := [[some (.iload_n 1, 1, 0, 0), some (.aload_n 0, 1, 0, 0), some (.getfield 9, 3, 0, 0), none, none, some (.iconst 1, 1, 0, 0), some (.isub, 1, 0, 0), some (.if_icmp .ge 9, 3, 16, 0), none, none, some (.iload_n 1, 1, 0, 0), some (.iconst 1, 1, 0, 0), some (.iadd, 1, 0, 0), some (.goto 14, 3, 27, 0), none, none, some (.iload_n 1, 1, 0, 0), some (.aload_n 0, 1, 0, 0), some (.getfield 9, 3, 0, 0), none, none, some (.iconst 1, 1, 0, 0), some (.isub, 1, 0, 0), some (.isub, 1, 0, 0), some (.bipush 11, 2, 0, 0), none, some (.iadd, 1, 0, 0), some (.ireturn, 1, 0, 0)]]
-- StrandBoxes$Boxes.isLetter(I)Z
def ac_X0_isLetter : am_C := [[some (.iload_n 1, 1, 0, 0), some (.iconst 1, 1, 0, 0), some (.if_icmp .lt 11, 3, 13, 0), none, none, some (.iload_n 1, 1, 0, 0), some (.aload_n 0, 1, 0, 0), some (.getfield 9, 3, 0, 0), none, none, some (.if_icmp .lt 22, 3, 32, 0), none, none, some (.iload_n 1, 1, 0, 0), some (.bipush 11, 2, 0, 0), none, some (.if_icmp .lt 20, 3, 36, 0), none, none, some (.iload_n 1, 1, 0, 0), some (.bipush 11, 2, 0, 0), none, some (.aload_n 0, 1, 0, 0), some (.getfield 9, 3, 0, 0), none, none, some (.iadd, 1, 0, 0), some (.iconst 1, 1, 0, 0), some (.isub, 1, 0, 0), some (.if_icmp .ge 7, 3, 36, 0), none, none],
  [some (.iconst 1, 1, 0, 0), some (.goto 4, 3, 37, 0), none, none, some (.iconst 0, 1, 0, 0), some (.ireturn, 1, 1, 0)]]
-- StrandBoxes$Boxes.ofLetter(I)I
def ac_X0_ofLetter : am_C := [[some (.iload_n 1, 1, 0, 0), some (.ifCond .eq 13, 3, 14, 0), none, none, some (.aload_n 0, 1, 0, 0), some (.iload_n 1, 1, 0, 0), some (.invokevirtual 112, 3, 1018, 2), none, none, some (.ifCond .ne 5, 3, 14, 0), none, none, some (.iconst (-1), 1, 0, 0), some (.ireturn, 1, 0, 0), some (.iconst 0, 1, 0, 0), some (.istore_n 2, 1, 0, 0), some (.iload_n 2, 1, 0, 0), some (.aload_n 0, 1, 0, 0), some (.getfield 15, 3, 0, 1), none, none, some (.if_icmp .ge 20, 3, 41, 0), none, none, some (.aload_n 0, 1, 0, 0), some (.getfield 46, 3, 0, 9), none, none, some (.iload_n 2, 1, 0, 0), some (.aload_n 0, 1, 0, 0), some (.iload_n 2, 1, 0, 0), some (.invokevirtual 96, 3, 1013, 2)],
  [none, none, some (.iastore, 1, 0, 0), some (.iinc 2 1, 3, 0, 0), none, none, some (.goto (-22), 3, 16, 0), none, none, some (.iload_n 1, 1, 0, 0), some (.bipush 11, 2, 0, 0), none, some (.if_icmp .lt 43, 3, 87, 0), none, none, some (.iload_n 1, 1, 0, 0), some (.bipush 11, 2, 0, 0), none, some (.isub, 1, 0, 0), some (.istore_n 2, 1, 0, 0), some (.aload_n 0, 1, 0, 0), some (.getfield 46, 3, 0, 9), none, none, some (.iload_n 2, 1, 0, 0), some (.aload_n 0, 1, 0, 0), some (.getfield 9, 3, 0, 0), none, none, some (.iload_n 2, 1, 0, 0), some (.iadd, 1, 0, 0), some (.iconst 1, 1, 0, 0)],
  [some (.iadd, 1, 0, 0), some (.invokestatic 81, 3, 20, 3), none, none, some (.aload_n 0, 1, 0, 0), some (.getfield 46, 3, 0, 9), none, none, some (.iload_n 2, 1, 0, 0), some (.iconst 1, 1, 0, 0), some (.iadd, 1, 0, 0), some (.aload_n 0, 1, 0, 0), some (.getfield 9, 3, 0, 0), none, none, some (.iload_n 2, 1, 0, 0), some (.iadd, 1, 0, 0), some (.invokestatic 81, 3, 20, 3), none, none, some (.goto 39, 3, 123, 0), none, none, some (.iload_n 1, 1, 0, 0), some (.ifCond .le 35, 3, 123, 0), none, none, some (.aload_n 0, 1, 0, 0), some (.getfield 46, 3, 0, 9), none, none, some (.iload_n 1, 1, 0, 0)],
  [some (.iconst 1, 1, 0, 0), some (.isub, 1, 0, 0), some (.iload_n 1, 1, 0, 0), some (.invokestatic 81, 3, 20, 3), none, none, some (.aload_n 0, 1, 0, 0), some (.getfield 46, 3, 0, 9), none, none, some (.aload_n 0, 1, 0, 0), some (.getfield 9, 3, 0, 0), none, none, some (.iload_n 1, 1, 0, 0), some (.iadd, 1, 0, 0), some (.iconst 1, 1, 0, 0), some (.isub, 1, 0, 0), some (.aload_n 0, 1, 0, 0), some (.getfield 9, 3, 0, 0), none, none, some (.iload_n 1, 1, 0, 0), some (.iadd, 1, 0, 0), some (.invokestatic 81, 3, 20, 3), none, none, some (.aload_n 0, 1, 0, 0), some (.aload_n 0, 1, 0, 0), some (.getfield 46, 3, 0, 9), none, none],
  [some (.invokevirtual 99, 3, 1006, 2), none, none, some (.ireturn, 1, 0, 0)]]
-- StrandBoxes$Boxes.pair([III)V
def ac_X0_pair : am_C := [[some (.aload_n 0, 1, 0, 0), some (.iload_n 1, 1, 0, 0), some (.iload_n 2, 1, 0, 0), some (.iastore, 1, 0, 0), some (.aload_n 0, 1, 0, 0), some (.iload_n 2, 1, 0, 0), some (.iload_n 1, 1, 0, 0), some (.iastore, 1, 0, 0), some (.return_, 1, 0, 0)]]
-- StrandBoxes$Boxes.ofPairs(J)I
def ac_X0_ofPairs : am_C := [[some (.lload_n 1, 1, 0, 0), some (.bipush 8, 2, 0, 0), none, some (.aload_n 0, 1, 0, 0), some (.getfield 9, 3, 0, 0), none, none, some (.imul, 1, 0, 0), some (.lushr, 1, 0, 0), some (.lconst 0, 1, 0, 0), some (.lcmp, 1, 0, 0), some (.ifCond .eq 5, 3, 16, 0), none, none, some (.iconst (-1), 1, 0, 0), some (.ireturn, 1, 0, 0), some (.aload_n 0, 1, 0, 0), some (.invokevirtual 74, 3, 1015, 1), none, none, some (.iconst 0, 1, 0, 0), some (.istore_n 3, 1, 0, 0), some (.iload_n 3, 1, 0, 0), some (.aload_n 0, 1, 0, 0), some (.getfield 9, 3, 0, 0), none, none, some (.if_icmp .ge 109, 3, 136, 0), none, none, some (.lload_n 1, 1, 0, 0), some (.bipush 8, 2, 0, 0)],
  [none, some (.iload_n 3, 1, 0, 0), some (.imul, 1, 0, 0), some (.lushr, 1, 0, 0), some (.l2i, 1, 0, 0), some (.bipush 15, 2, 0, 0), none, some (.iand, 1, 0, 0), some (.istore 4, 2, 0, 0), none, some (.lload_n 1, 1, 0, 0), some (.bipush 8, 2, 0, 0), none, some (.iload_n 3, 1, 0, 0), some (.imul, 1, 0, 0), some (.iconst 4, 1, 0, 0), some (.iadd, 1, 0, 0), some (.lushr, 1, 0, 0), some (.l2i, 1, 0, 0), some (.bipush 15, 2, 0, 0), none, some (.iand, 1, 0, 0), some (.istore 5, 2, 0, 0), none, some (.iload 4, 2, 0, 0), none, some (.aload_n 0, 1, 0, 0), some (.getfield 15, 3, 0, 1), none, none, some (.if_icmp .ge 39, 3, 101, 0), none],
  [none, some (.iload 5, 2, 0, 0), none, some (.aload_n 0, 1, 0, 0), some (.getfield 15, 3, 0, 1), none, none, some (.if_icmp .ge 30, 3, 101, 0), none, none, some (.iload 4, 2, 0, 0), none, some (.iload 5, 2, 0, 0), none, some (.if_icmp .eq 23, 3, 101, 0), none, none, some (.aload_n 0, 1, 0, 0), some (.getfield 49, 3, 0, 10), none, none, some (.iload 4, 2, 0, 0), none, some (.baload, 1, 0, 0), some (.ifCond .ne 13, 3, 101, 0), none, none, some (.aload_n 0, 1, 0, 0), some (.getfield 49, 3, 0, 10), none, none, some (.iload 5, 2, 0, 0)],
  [none, some (.baload, 1, 0, 0), some (.ifCond .eq 5, 3, 103, 0), none, none, some (.iconst (-1), 1, 0, 0), some (.ireturn, 1, 0, 0), some (.aload_n 0, 1, 0, 0), some (.getfield 49, 3, 0, 10), none, none, some (.iload 4, 2, 0, 0), none, some (.iconst 1, 1, 0, 0), some (.bastore, 1, 0, 0), some (.aload_n 0, 1, 0, 0), some (.getfield 49, 3, 0, 10), none, none, some (.iload 5, 2, 0, 0), none, some (.iconst 1, 1, 0, 0), some (.bastore, 1, 0, 0), some (.aload_n 0, 1, 0, 0), some (.getfield 46, 3, 0, 9), none, none, some (.iload 4, 2, 0, 0), none, some (.iload 5, 2, 0, 0), none, some (.invokestatic 81, 3, 20, 3)],
  [none, none, some (.iinc 3 1, 3, 0, 0), none, none, some (.goto (-111), 3, 22, 0), none, none, some (.aload_n 0, 1, 0, 0), some (.aload_n 0, 1, 0, 0), some (.getfield 46, 3, 0, 9), none, none, some (.invokevirtual 99, 3, 1006, 2), none, none, some (.ireturn, 1, 0, 0)]]
-- StrandBoxes$Boxes.join([I[I)I
def ac_X0_join : am_C := [[some (.aload_n 0, 1, 0, 0), some (.invokevirtual 74, 3, 1015, 1), none, none, some (.iconst 0, 1, 0, 0), some (.istore_n 3, 1, 0, 0), some (.iload_n 3, 1, 0, 0), some (.aload_n 0, 1, 0, 0), some (.getfield 15, 3, 0, 1), none, none, some (.if_icmp .ge 22, 3, 33, 0), none, none, some (.aload_n 0, 1, 0, 0), some (.getfield 46, 3, 0, 9), none, none, some (.iload_n 3, 1, 0, 0), some (.aload_n 0, 1, 0, 0), some (.aload_n 1, 1, 0, 0), some (.aload_n 2, 1, 0, 0), some (.iload_n 3, 1, 0, 0), some (.invokevirtual 115, 3, 1023, 4), none, none, some (.iastore, 1, 0, 0), some (.iinc 3 1, 3, 0, 0), none, none, some (.goto (-24), 3, 6, 0), none],
  [none, some (.aload_n 0, 1, 0, 0), some (.aload_n 0, 1, 0, 0), some (.getfield 46, 3, 0, 9), none, none, some (.invokevirtual 99, 3, 1006, 2), none, none, some (.sipush 1000, 3, 0, 0), none, none, some (.aload_n 0, 1, 0, 0), some (.aload_n 1, 1, 0, 0), some (.aload_n 2, 1, 0, 0), some (.invokevirtual 119, 3, 1024, 3), none, none, some (.imul, 1, 0, 0), some (.iadd, 1, 0, 0), some (.ireturn, 1, 0, 0)]]
-- StrandBoxes$Boxes.follow([I[II)I
def ac_X0_follow : am_C := [[some (.iload_n 3, 1, 0, 0), some (.aload_n 0, 1, 0, 0), some (.getfield 9, 3, 0, 0), none, none, some (.if_icmp .ge 7, 3, 12, 0), none, none, some (.iconst 1, 1, 0, 0), some (.goto 4, 3, 13, 0), none, none, some (.iconst 0, 1, 0, 0), some (.istore 4, 2, 0, 0), none, some (.iload_n 3, 1, 0, 0), some (.istore 5, 2, 0, 0), none, some (.iconst 0, 1, 0, 0), some (.istore 6, 2, 0, 0), none, some (.iload 6, 2, 0, 0), none, some (.aload_n 0, 1, 0, 0), some (.getfield 15, 3, 0, 1), none, none, some (.if_icmp .gt 92, 3, 119, 0), none, none, some (.iload 4, 2, 0, 0), none],
  [some (.ifCond .eq 10, 3, 42, 0), none, none, some (.aload_n 1, 1, 0, 0), some (.iload 5, 2, 0, 0), none, some (.iaload, 1, 0, 0), some (.goto 7, 3, 46, 0), none, none, some (.aload_n 2, 1, 0, 0), some (.iload 5, 2, 0, 0), none, some (.iaload, 1, 0, 0), some (.istore 5, 2, 0, 0), none, some (.iload 4, 2, 0, 0), none, some (.iload 5, 2, 0, 0), none, some (.aload_n 0, 1, 0, 0), some (.getfield 9, 3, 0, 0), none, none, some (.if_icmp .ge 7, 3, 63, 0), none, none, some (.iconst 1, 1, 0, 0), some (.goto 4, 3, 64, 0), none, none, some (.iconst 0, 1, 0, 0)],
  [some (.if_icmp .ne 6, 3, 70, 0), none, none, some (.iload 5, 2, 0, 0), none, some (.ireturn, 1, 0, 0), some (.aload_n 0, 1, 0, 0), some (.getfield 49, 3, 0, 10), none, none, some (.iload 4, 2, 0, 0), none, some (.ifCond .eq 13, 3, 89, 0), none, none, some (.iload 5, 2, 0, 0), none, some (.aload_n 0, 1, 0, 0), some (.getfield 9, 3, 0, 0), none, none, some (.isub, 1, 0, 0), some (.goto 5, 3, 91, 0), none, none, some (.iload 5, 2, 0, 0), none, some (.iconst 1, 1, 0, 0), some (.bastore, 1, 0, 0), some (.aload_n 0, 1, 0, 0), some (.iload 5, 2, 0, 0), none],
  [some (.invokevirtual 96, 3, 1013, 2), none, none, some (.istore 5, 2, 0, 0), none, some (.iload 4, 2, 0, 0), none, some (.ifCond .ne 7, 3, 110, 0), none, none, some (.iconst 1, 1, 0, 0), some (.goto 4, 3, 111, 0), none, none, some (.iconst 0, 1, 0, 0), some (.istore 4, 2, 0, 0), none, some (.iinc 6 1, 3, 0, 0), none, none, some (.goto (-95), 3, 21, 0), none, none, some (.iload_n 3, 1, 0, 0), some (.ireturn, 1, 0, 0)]]
-- StrandBoxes$Boxes.countInnerRings([I[I)I
def ac_X0_countInnerRings : am_C := [[some (.iconst 0, 1, 0, 0), some (.istore_n 3, 1, 0, 0), some (.iconst 0, 1, 0, 0), some (.istore 4, 2, 0, 0), none, some (.iload 4, 2, 0, 0), none, some (.aload_n 0, 1, 0, 0), some (.getfield 9, 3, 0, 0), none, none, some (.if_icmp .ge 90, 3, 101, 0), none, none, some (.aload_n 0, 1, 0, 0), some (.getfield 49, 3, 0, 10), none, none, some (.iload 4, 2, 0, 0), none, some (.baload, 1, 0, 0), some (.ifCond .ne 74, 3, 95, 0), none, none, some (.iinc 3 1, 3, 0, 0), none, none, some (.iload 4, 2, 0, 0), none, some (.istore 5, 2, 0, 0), none, some (.iconst 0, 1, 0, 0)],
  [some (.istore 6, 2, 0, 0), none, some (.iload 6, 2, 0, 0), none, some (.aload_n 0, 1, 0, 0), some (.getfield 9, 3, 0, 0), none, none, some (.if_icmp .ge 55, 3, 95, 0), none, none, some (.aload_n 0, 1, 0, 0), some (.getfield 49, 3, 0, 10), none, none, some (.iload 5, 2, 0, 0), none, some (.baload, 1, 0, 0), some (.ifCond .ne 45, 3, 95, 0), none, none, some (.aload_n 0, 1, 0, 0), some (.getfield 49, 3, 0, 10), none, none, some (.iload 5, 2, 0, 0), none, some (.iconst 1, 1, 0, 0), some (.bastore, 1, 0, 0), some (.aload_n 0, 1, 0, 0), some (.aload_n 1, 1, 0, 0), some (.aload_n 0, 1, 0, 0)],
  [some (.iload 5, 2, 0, 0), none, some (.invokevirtual 96, 3, 1013, 2), none, none, some (.iaload, 1, 0, 0), some (.invokevirtual 96, 3, 1013, 2), none, none, some (.istore 5, 2, 0, 0), none, some (.aload_n 0, 1, 0, 0), some (.getfield 49, 3, 0, 10), none, none, some (.iload 5, 2, 0, 0), none, some (.iconst 1, 1, 0, 0), some (.bastore, 1, 0, 0), some (.aload_n 2, 1, 0, 0), some (.iload 5, 2, 0, 0), none, some (.iaload, 1, 0, 0), some (.istore 5, 2, 0, 0), none, some (.iinc 6 1, 3, 0, 0), none, none, some (.goto (-58), 3, 34, 0), none, none, some (.iinc 4 1, 3, 0, 0)],
  [none, none, some (.goto (-93), 3, 5, 0), none, none, some (.iload_n 3, 1, 0, 0), some (.ireturn, 1, 0, 0)]]
-- StrandBoxes$Boxes.spellAll()V
def ac_X0_spellAll : am_C := [[some (.iconst 0, 1, 0, 0), some (.istore_n 1, 1, 0, 0), some (.iload_n 1, 1, 0, 0), some (.aload_n 0, 1, 0, 0), some (.getfield 25, 3, 0, 3), none, none, some (.if_icmp .ge 16, 3, 23, 0), none, none, some (.aload_n 0, 1, 0, 0), some (.getfield 37, 3, 0, 6), none, none, some (.iload_n 1, 1, 0, 0), some (.iconst (-1), 1, 0, 0), some (.iastore, 1, 0, 0), some (.iinc 1 1, 3, 0, 0), none, none, some (.goto (-18), 3, 2, 0), none, none, some (.aload_n 0, 1, 0, 0), some (.getfield 25, 3, 0, 3), none, none, some (.newarray .int, 2, 0, 0), none, some (.astore_n 1, 1, 0, 0), some (.aload_n 1, 1, 0, 0), some (.iconst 0, 1, 0, 0)],
  [some (.aload_n 0, 1, 0, 0), some (.iconst 0, 1, 0, 0), some (.invokevirtual 105, 3, 1019, 2), none, none, some (.iastore, 1, 0, 0), some (.aload_n 0, 1, 0, 0), some (.getfield 37, 3, 0, 6), none, none, some (.aload_n 1, 1, 0, 0), some (.iconst 0, 1, 0, 0), some (.iaload, 1, 0, 0), some (.iconst 0, 1, 0, 0), some (.iastore, 1, 0, 0), some (.iconst 1, 1, 0, 0), some (.istore_n 2, 1, 0, 0), some (.iconst 0, 1, 0, 0), some (.istore_n 3, 1, 0, 0), some (.iload_n 3, 1, 0, 0), some (.iload_n 2, 1, 0, 0), some (.if_icmp .ge 95, 3, 148, 0), none, none, some (.iload_n 2, 1, 0, 0), some (.aload_n 0, 1, 0, 0), some (.getfield 25, 3, 0, 3), none, none, some (.if_icmp .ge 87, 3, 148, 0), none, none],
  [some (.iconst 0, 1, 0, 0), some (.istore 4, 2, 0, 0), none, some (.iload 4, 2, 0, 0), none, some (.aload_n 0, 1, 0, 0), some (.getfield 18, 3, 0, 2), none, none, some (.if_icmp .ge 69, 3, 142, 0), none, none, some (.aload_n 0, 1, 0, 0), some (.getfield 43, 3, 0, 8), none, none, some (.aload_n 1, 1, 0, 0), some (.iload_n 3, 1, 0, 0), some (.iaload, 1, 0, 0), some (.aaload, 1, 0, 0), some (.iload 4, 2, 0, 0), none, some (.iaload, 1, 0, 0), some (.istore 5, 2, 0, 0), none, some (.iload 5, 2, 0, 0), none, some (.aload_n 0, 1, 0, 0), some (.getfield 25, 3, 0, 3), none, none, some (.if_icmp .ge 41, 3, 136, 0)],
  [none, none, some (.aload_n 0, 1, 0, 0), some (.getfield 37, 3, 0, 6), none, none, some (.iload 5, 2, 0, 0), none, some (.iaload, 1, 0, 0), some (.iconst (-1), 1, 0, 0), some (.if_icmp .ne 30, 3, 136, 0), none, none, some (.iload_n 2, 1, 0, 0), some (.aload_n 0, 1, 0, 0), some (.getfield 25, 3, 0, 3), none, none, some (.if_icmp .ge 22, 3, 136, 0), none, none, some (.aload_n 0, 1, 0, 0), some (.iload 5, 2, 0, 0), none, some (.aload_n 1, 1, 0, 0), some (.iload_n 3, 1, 0, 0), some (.iaload, 1, 0, 0), some (.iload 4, 2, 0, 0), none, some (.invokevirtual 122, 3, 1026, 4), none, none],
  [some (.aload_n 1, 1, 0, 0), some (.iload_n 2, 1, 0, 0), some (.iload 5, 2, 0, 0), none, some (.iastore, 1, 0, 0), some (.iinc 2 1, 3, 0, 0), none, none, some (.iinc 4 1, 3, 0, 0), none, none, some (.goto (-72), 3, 67, 0), none, none, some (.iinc 3 1, 3, 0, 0), none, none, some (.goto (-94), 3, 51, 0), none, none, some (.return_, 1, 0, 0)]]
-- StrandBoxes$Boxes.spellBehind(III)V
def ac_X0_spellBehind : am_C := [[some (.aload_n 0, 1, 0, 0), some (.getfield 37, 3, 0, 6), none, none, some (.iload_n 2, 1, 0, 0), some (.iaload, 1, 0, 0), some (.iconst 5, 1, 0, 0), some (.invokestatic 126, 3, 152, 2), none, none, some (.istore 4, 2, 0, 0), none, some (.aload_n 0, 1, 0, 0), some (.getfield 40, 3, 0, 7), none, none, some (.iload_n 2, 1, 0, 0), some (.aaload, 1, 0, 0), some (.iconst 0, 1, 0, 0), some (.aload_n 0, 1, 0, 0), some (.getfield 40, 3, 0, 7), none, none, some (.iload_n 1, 1, 0, 0), some (.aaload, 1, 0, 0), some (.iconst 0, 1, 0, 0), some (.iload 4, 2, 0, 0), none, some (.invokestatic 131, 3, 901, 5), none, none, some (.aload_n 0, 1, 0, 0)],
  [some (.getfield 40, 3, 0, 7), none, none, some (.iload_n 1, 1, 0, 0), some (.aaload, 1, 0, 0), some (.iload 4, 2, 0, 0), none, some (.iload_n 3, 1, 0, 0), some (.iastore, 1, 0, 0), some (.aload_n 0, 1, 0, 0), some (.getfield 37, 3, 0, 6), none, none, some (.iload_n 1, 1, 0, 0), some (.iload 4, 2, 0, 0), none, some (.iconst 1, 1, 0, 0), some (.iadd, 1, 0, 0), some (.iastore, 1, 0, 0), some (.return_, 1, 0, 0)]]
-- StrandBoxes$Boxes.letterOf(II)I
def ac_X0_letterOf : am_C := [[some (.iload_n 2, 1, 0, 0), some (.aload_n 0, 1, 0, 0), some (.getfield 37, 3, 0, 6), none, none, some (.iload_n 1, 1, 0, 0), some (.iaload, 1, 0, 0), some (.if_icmp .ge 18, 3, 25, 0), none, none, some (.aload_n 0, 1, 0, 0), some (.aload_n 0, 1, 0, 0), some (.getfield 40, 3, 0, 7), none, none, some (.iload_n 1, 1, 0, 0), some (.aaload, 1, 0, 0), some (.iload_n 2, 1, 0, 0), some (.iaload, 1, 0, 0), some (.invokevirtual 102, 3, 1017, 2), none, none, some (.goto 5, 3, 27, 0), none, none, some (.bipush (-4), 2, 0, 0), none, some (.ireturn, 1, 0, 0)]]
-- StrandBoxes$Boxes.stackOn(II)I
def ac_X0_stackOn : am_C := [[some (.iload_n 1, 1, 0, 0), some (.istore_n 3, 1, 0, 0), some (.iconst 0, 1, 0, 0), some (.istore 4, 2, 0, 0), none, some (.iconst 0, 1, 0, 0), some (.istore 5, 2, 0, 0), none, some (.iload 5, 2, 0, 0), none, some (.aload_n 0, 1, 0, 0), some (.getfield 37, 3, 0, 6), none, none, some (.iload_n 2, 1, 0, 0), some (.iaload, 1, 0, 0), some (.if_icmp .ge 43, 3, 59, 0), none, none, some (.aload_n 0, 1, 0, 0), some (.getfield 43, 3, 0, 8), none, none, some (.iload_n 3, 1, 0, 0), some (.aaload, 1, 0, 0), some (.aload_n 0, 1, 0, 0), some (.getfield 40, 3, 0, 7), none, none, some (.iload_n 2, 1, 0, 0), some (.aaload, 1, 0, 0), some (.iload 5, 2, 0, 0)],
  [none, some (.iaload, 1, 0, 0), some (.iaload, 1, 0, 0), some (.istore 6, 2, 0, 0), none, some (.iload 6, 2, 0, 0), none, some (.sipush 1000, 3, 0, 0), none, none, some (.irem, 1, 0, 0), some (.istore_n 3, 1, 0, 0), some (.iload 4, 2, 0, 0), none, some (.iload 6, 2, 0, 0), none, some (.iload_n 3, 1, 0, 0), some (.isub, 1, 0, 0), some (.iadd, 1, 0, 0), some (.istore 4, 2, 0, 0), none, some (.iinc 5 1, 3, 0, 0), none, none, some (.goto (-48), 3, 8, 0), none, none, some (.iload_n 3, 1, 0, 0), some (.iload 4, 2, 0, 0), none, some (.iadd, 1, 0, 0), some (.ireturn, 1, 0, 0)]]
-- StrandBoxes$Crossings.<init>()V
def ac_X1_init : am_C := [[some (.aload_n 0, 1, 0, 0), some (.invokespecial 3, 3, 900, 1), none, none, some (.aload_n 0, 1, 0, 0), some (.iconst 2, 1, 0, 0), some (.putfield 9, 3, 1, 0), none, none, some (.aload_n 0, 1, 0, 0), some (.bipush 8, 2, 0, 0), none, some (.newarray .int, 2, 0, 0), none, some (.putfield 15, 3, 1, 2), none, none, some (.aload_n 0, 1, 0, 0), some (.bipush 81, 2, 0, 0), none, some (.newarray .int, 2, 0, 0), none, some (.putfield 19, 3, 1, 3), none, none, some (.return_, 1, 0, 0)]]
-- StrandBoxes$Crossings.begin(I)V
def ac_X1_begin : am_C := [[some (.aload_n 0, 1, 0, 0), some (.iload_n 1, 1, 0, 0), some (.putfield 9, 3, 1, 0), none, none, some (.aload_n 0, 1, 0, 0), some (.iconst 0, 1, 0, 0), some (.putfield 22, 3, 1, 1), none, none, some (.aload_n 0, 1, 0, 0), some (.iconst 0, 1, 0, 0), some (.putfield 25, 3, 1, 4), none, none, some (.return_, 1, 0, 0)]]
-- StrandBoxes$Crossings.allows(I)Z
def ac_X1_allows : am_C := [[some (.iload_n 1, 1, 0, 0), some (.ifCond .eq 24, 3, 25, 0), none, none, some (.iload_n 1, 1, 0, 0), some (.aload_n 0, 1, 0, 0), some (.getfield 9, 3, 1, 0), none, none, some (.ineg, 1, 0, 0), some (.if_icmp .le 15, 3, 25, 0), none, none, some (.iload_n 1, 1, 0, 0), some (.aload_n 0, 1, 0, 0), some (.getfield 9, 3, 1, 0), none, none, some (.if_icmp .ge 7, 3, 25, 0), none, none, some (.iconst 1, 1, 0, 0), some (.goto 4, 3, 26, 0), none, none, some (.iconst 0, 1, 0, 0), some (.ireturn, 1, 1, 0)]]
-- StrandBoxes$Crossings.append(I)Z
def ac_X1_append : am_C := [[some (.aload_n 0, 1, 0, 0), some (.getfield 22, 3, 1, 1), none, none, some (.bipush 8, 2, 0, 0), none, some (.if_icmp .lt 5, 3, 11, 0), none, none, some (.iconst 0, 1, 0, 0), some (.ireturn, 1, 1, 0), some (.aload_n 0, 1, 0, 0), some (.getfield 15, 3, 1, 2), none, none, some (.aload_n 0, 1, 0, 0), some (.getfield 22, 3, 1, 1), none, none, some (.iload_n 1, 1, 0, 0), some (.iastore, 1, 0, 0), some (.aload_n 0, 1, 0, 0), some (.dup, 1, 0, 0), some (.getfield 22, 3, 1, 1), none, none, some (.iconst 1, 1, 0, 0), some (.iadd, 1, 0, 0), some (.putfield 22, 3, 1, 1), none, none, some (.aload_n 0, 1, 0, 0)],
  [some (.iconst 0, 1, 0, 0), some (.putfield 25, 3, 1, 4), none, none, some (.iconst 1, 1, 0, 0), some (.ireturn, 1, 1, 0)]]
-- StrandBoxes$Crossings.dropLast()Z
def ac_X1_dropLast : am_C := [[some (.aload_n 0, 1, 0, 0), some (.getfield 22, 3, 1, 1), none, none, some (.ifCond .gt 5, 3, 9, 0), none, none, some (.iconst 0, 1, 0, 0), some (.ireturn, 1, 1, 0), some (.aload_n 0, 1, 0, 0), some (.dup, 1, 0, 0), some (.getfield 22, 3, 1, 1), none, none, some (.iconst 1, 1, 0, 0), some (.isub, 1, 0, 0), some (.putfield 22, 3, 1, 1), none, none, some (.aload_n 0, 1, 0, 0), some (.iconst 0, 1, 0, 0), some (.putfield 25, 3, 1, 4), none, none, some (.iconst 1, 1, 0, 0), some (.ireturn, 1, 1, 0)]]
-- StrandBoxes$Crossings.wholeAt(ILStrandBoxes$Boxes;)I
def ac_X1_wholeAt : am_C := [[some (.aload_n 0, 1, 0, 0), some (.getfield 25, 3, 1, 4), none, none, some (.ifCond .ne 13, 3, 17, 0), none, none, some (.aload_n 0, 1, 0, 0), some (.aload_n 2, 1, 0, 0), some (.invokevirtual 29, 3, 2035, 2), none, none, some (.aload_n 0, 1, 0, 0), some (.iconst 1, 1, 0, 0), some (.putfield 25, 3, 1, 4), none, none, some (.aload_n 0, 1, 0, 0), some (.getfield 19, 3, 1, 3), none, none, some (.iload_n 1, 1, 0, 0), some (.bipush 40, 2, 0, 0), none, some (.iadd, 1, 0, 0), some (.iaload, 1, 0, 0), some (.ireturn, 1, 0, 0)]]
-- StrandBoxes$Crossings.addStates(LStrandBoxes$Boxes;)V
def ac_X1_addStates : am_C := [[some (.iconst 0, 1, 0, 0), some (.istore_n 2, 1, 0, 0), some (.iload_n 2, 1, 0, 0), some (.aload_n 0, 1, 0, 0), some (.getfield 19, 3, 1, 3), none, none, some (.arraylength, 1, 0, 0), some (.if_icmp .ge 16, 3, 24, 0), none, none, some (.aload_n 0, 1, 0, 0), some (.getfield 19, 3, 1, 3), none, none, some (.iload_n 2, 1, 0, 0), some (.iconst 0, 1, 0, 0), some (.iastore, 1, 0, 0), some (.iinc 2 1, 3, 0, 0), none, none, some (.goto (-19), 3, 2, 0), none, none, some (.aload_n 1, 1, 0, 0), some (.iconst 0, 1, 0, 0), some (.invokevirtual 33, 3, 1019, 2), none, none, some (.istore_n 2, 1, 0, 0), some (.iconst 0, 1, 0, 0), some (.istore_n 3, 1, 0, 0)],
  [some (.iload_n 3, 1, 0, 0), some (.iconst 1, 1, 0, 0), some (.aload_n 0, 1, 0, 0), some (.getfield 22, 3, 1, 1), none, none, some (.ishl, 1, 0, 0), some (.if_icmp .ge 147, 3, 186, 0), none, none, some (.iload_n 2, 1, 0, 0), some (.istore 4, 2, 0, 0), none, some (.iconst 0, 1, 0, 0), some (.istore 5, 2, 0, 0), none, some (.iconst 0, 1, 0, 0), some (.istore 6, 2, 0, 0), none, some (.iconst 0, 1, 0, 0), some (.istore 7, 2, 0, 0), none, some (.iload 7, 2, 0, 0), none, some (.aload_n 0, 1, 0, 0), some (.getfield 22, 3, 1, 1), none, none, some (.if_icmp .ge 102, 3, 162, 0), none, none, some (.iload_n 3, 1, 0, 0)],
  [some (.iload 7, 2, 0, 0), none, some (.ishr, 1, 0, 0), some (.iconst 1, 1, 0, 0), some (.iand, 1, 0, 0), some (.iconst 1, 1, 0, 0), some (.if_icmp .ne 7, 3, 77, 0), none, none, some (.iconst 1, 1, 0, 0), some (.goto 4, 3, 78, 0), none, none, some (.iconst 0, 1, 0, 0), some (.istore 8, 2, 0, 0), none, some (.iload 6, 2, 0, 0), none, some (.iload 8, 2, 0, 0), none, some (.aload_n 0, 1, 0, 0), some (.getfield 15, 3, 1, 2), none, none, some (.iload 7, 2, 0, 0), none, some (.iaload, 1, 0, 0), some (.ifCond .ge 7, 3, 98, 0), none, none, some (.iconst 1, 1, 0, 0), some (.goto 4, 3, 99, 0)],
  [none, none, some (.iconst 0, 1, 0, 0), some (.if_icmp .ne 7, 3, 106, 0), none, none, some (.iconst 1, 1, 0, 0), some (.goto 4, 3, 107, 0), none, none, some (.iconst (-1), 1, 0, 0), some (.iadd, 1, 0, 0), some (.istore 6, 2, 0, 0), none, some (.iload 8, 2, 0, 0), none, some (.ifCond .eq 44, 3, 156, 0), none, none, some (.aload_n 1, 1, 0, 0), some (.getfield 39, 3, 0, 8), none, none, some (.iload 4, 2, 0, 0), none, some (.aaload, 1, 0, 0), some (.aload_n 0, 1, 0, 0), some (.getfield 15, 3, 1, 2), none, none, some (.iload 7, 2, 0, 0), none],
  [some (.iaload, 1, 0, 0), some (.invokestatic 43, 3, 150, 1), none, none, some (.iconst 1, 1, 0, 0), some (.isub, 1, 0, 0), some (.iaload, 1, 0, 0), some (.istore 9, 2, 0, 0), none, some (.iload 9, 2, 0, 0), none, some (.sipush 1000, 3, 0, 0), none, none, some (.irem, 1, 0, 0), some (.istore 4, 2, 0, 0), none, some (.iload 5, 2, 0, 0), none, some (.iload 9, 2, 0, 0), none, some (.sipush 1000, 3, 0, 0), none, none, some (.idiv, 1, 0, 0), some (.iadd, 1, 0, 0), some (.istore 5, 2, 0, 0), none, some (.iinc 7 1, 3, 0, 0), none, none, some (.goto (-105), 3, 54, 0)],
  [none, none, some (.aload_n 0, 1, 0, 0), some (.iload 6, 2, 0, 0), none, some (.iload 5, 2, 0, 0), none, some (.aload_n 1, 1, 0, 0), some (.getfield 48, 3, 0, 5), none, none, some (.iload 4, 2, 0, 0), none, some (.iaload, 1, 0, 0), some (.iadd, 1, 0, 0), some (.iconst 1, 1, 0, 0), some (.isub, 1, 0, 0), some (.invokevirtual 51, 3, 2036, 3), none, none, some (.iinc 3 1, 3, 0, 0), none, none, some (.goto (-151), 3, 32, 0), none, none, some (.return_, 1, 0, 0)]]
-- StrandBoxes$Crossings.addState(II)V
def ac_X1_addState : am_C := [[some (.iload_n 2, 1, 0, 0), some (.iconst 2, 1, 0, 0), some (.irem, 1, 0, 0), some (.ifCond .ne 7, 3, 10, 0), none, none, some (.iconst 1, 1, 0, 0), some (.goto 4, 3, 11, 0), none, none, some (.iconst (-1), 1, 0, 0), some (.istore_n 3, 1, 0, 0), some (.iload_n 1, 1, 0, 0), some (.iconst 2, 1, 0, 0), some (.iload_n 2, 1, 0, 0), some (.imul, 1, 0, 0), some (.iadd, 1, 0, 0), some (.istore 4, 2, 0, 0), none, some (.iconst 0, 1, 0, 0), some (.istore 5, 2, 0, 0), none, some (.iload 5, 2, 0, 0), none, some (.iload_n 2, 1, 0, 0), some (.if_icmp .gt 52, 3, 77, 0), none, none, some (.iload 4, 2, 0, 0), none, some (.bipush (-40), 2, 0, 0), none],
  [some (.if_icmp .lt 24, 3, 56, 0), none, none, some (.iload 4, 2, 0, 0), none, some (.bipush 40, 2, 0, 0), none, some (.if_icmp .gt 17, 3, 56, 0), none, none, some (.aload_n 0, 1, 0, 0), some (.getfield 19, 3, 1, 3), none, none, some (.iload 4, 2, 0, 0), none, some (.bipush 40, 2, 0, 0), none, some (.iadd, 1, 0, 0), some (.dup2, 1, 0, 0), some (.iaload, 1, 0, 0), some (.iload_n 3, 1, 0, 0), some (.iadd, 1, 0, 0), some (.iastore, 1, 0, 0), some (.iload_n 3, 1, 0, 0), some (.iload_n 2, 1, 0, 0), some (.iload 5, 2, 0, 0), none, some (.isub, 1, 0, 0), some (.imul, 1, 0, 0), some (.iload 5, 2, 0, 0), none],
  [some (.iconst 1, 1, 0, 0), some (.iadd, 1, 0, 0), some (.idiv, 1, 0, 0), some (.istore_n 3, 1, 0, 0), some (.iinc 4 (-4), 3, 0, 0), none, none, some (.iinc 5 1, 3, 0, 0), none, none, some (.goto (-52), 3, 22, 0), none, none, some (.return_, 1, 0, 0)]]
-- StrandBoxes$Halves.<init>(I)V
def ac_X2_init : am_C := [[some (.aload_n 0, 1, 0, 0), some (.invokespecial 3, 3, 900, 1), none, none, some (.aload_n 0, 1, 0, 0), some (.bipush 6, 2, 0, 0), none, some (.newarray .int, 2, 0, 0), none, some (.putfield 11, 3, 2, 2), none, none, some (.aload_n 0, 1, 0, 0), some (.bipush 6, 2, 0, 0), none, some (.bipush 6, 2, 0, 0), none, some (.multianewarray 15 2, 4, 3, 0), none, none, none, some (.putfield 17, 3, 2, 3), none, none, some (.aload_n 0, 1, 0, 0), some (.iload_n 1, 1, 0, 0), some (.putfield 20, 3, 2, 0), none, none, some (.aload_n 0, 1, 0, 0), some (.bipush 6, 2, 0, 0), none],
  [some (.iload_n 1, 1, 0, 0), some (.multianewarray 15 2, 4, 3, 0), none, none, none, some (.putfield 24, 3, 2, 1), none, none, some (.aload_n 0, 1, 0, 0), some (.iload_n 1, 1, 0, 0), some (.newarray .int, 2, 0, 0), none, some (.putfield 27, 3, 2, 4), none, none, some (.aload_n 0, 1, 0, 0), some (.iload_n 1, 1, 0, 0), some (.newarray .boolean, 2, 1, 0), none, some (.putfield 30, 3, 2, 5), none, none, some (.iconst 1, 1, 0, 0), some (.istore_n 2, 1, 0, 0), some (.iconst 0, 1, 0, 0), some (.istore_n 3, 1, 0, 0), some (.iload_n 3, 1, 0, 0), some (.iload_n 1, 1, 0, 0), some (.if_icmp .ge 15, 3, 75, 0), none, none, some (.iload_n 2, 1, 0, 0)],
  [some (.iload_n 1, 1, 0, 0), some (.iconst 1, 1, 0, 0), some (.iadd, 1, 0, 0), some (.imul, 1, 0, 0), some (.istore_n 2, 1, 0, 0), some (.iinc 3 1, 3, 0, 0), none, none, some (.goto (-14), 3, 58, 0), none, none, some (.iconst 0, 1, 0, 0), some (.istore_n 3, 1, 0, 0), some (.iload_n 3, 1, 0, 0), some (.iload_n 2, 1, 0, 0), some (.if_icmp .ge 37, 3, 116, 0), none, none, some (.aload_n 0, 1, 0, 0), some (.aload_n 0, 1, 0, 0), some (.getfield 27, 3, 2, 4), none, none, some (.invokevirtual 34, 3, 3040, 2), none, none, some (.ifCond .eq 16, 3, 106, 0), none, none, some (.aload_n 0, 1, 0, 0), some (.getfield 38, 3, 2, 6), none],
  [none, some (.bipush 6, 2, 0, 0), none, some (.if_icmp .ge 7, 3, 106, 0), none, none, some (.aload_n 0, 1, 0, 0), some (.invokevirtual 41, 3, 3039, 1), none, none, some (.aload_n 0, 1, 0, 0), some (.invokevirtual 44, 3, 3038, 1), none, none, some (.iinc 3 1, 3, 0, 0), none, none, some (.goto (-36), 3, 77, 0), none, none, some (.return_, 1, 0, 0)]]
-- StrandBoxes$Halves.nextDraft()V
def ac_X2_nextDraft : am_C := [[some (.aload_n 0, 1, 0, 0), some (.getfield 20, 3, 2, 0), none, none, some (.iconst 1, 1, 0, 0), some (.isub, 1, 0, 0), some (.istore_n 1, 1, 0, 0), some (.iload_n 1, 1, 0, 0), some (.ifCond .lt 29, 3, 37, 0), none, none, some (.aload_n 0, 1, 0, 0), some (.getfield 27, 3, 2, 4), none, none, some (.iload_n 1, 1, 0, 0), some (.iaload, 1, 0, 0), some (.aload_n 0, 1, 0, 0), some (.getfield 20, 3, 2, 0), none, none, some (.if_icmp .ne 16, 3, 37, 0), none, none, some (.aload_n 0, 1, 0, 0), some (.getfield 27, 3, 2, 4), none, none, some (.iload_n 1, 1, 0, 0), some (.iconst 0, 1, 0, 0), some (.iastore, 1, 0, 0), some (.iinc 1 (-1), 3, 0, 0)],
  [none, none, some (.goto (-27), 3, 7, 0), none, none, some (.iload_n 1, 1, 0, 0), some (.ifCond .lt 13, 3, 51, 0), none, none, some (.aload_n 0, 1, 0, 0), some (.getfield 27, 3, 2, 4), none, none, some (.iload_n 1, 1, 0, 0), some (.dup2, 1, 0, 0), some (.iaload, 1, 0, 0), some (.iconst 1, 1, 0, 0), some (.iadd, 1, 0, 0), some (.iastore, 1, 0, 0), some (.return_, 1, 0, 0)]]
-- StrandBoxes$Halves.keepDraft()V
def ac_X2_keepDraft : am_C := [[some (.aload_n 0, 1, 0, 0), some (.getfield 27, 3, 2, 4), none, none, some (.iconst 0, 1, 0, 0), some (.aload_n 0, 1, 0, 0), some (.getfield 24, 3, 2, 1), none, none, some (.aload_n 0, 1, 0, 0), some (.getfield 38, 3, 2, 6), none, none, some (.aaload, 1, 0, 0), some (.iconst 0, 1, 0, 0), some (.aload_n 0, 1, 0, 0), some (.getfield 20, 3, 2, 0), none, none, some (.invokestatic 47, 3, 901, 5), none, none, some (.iconst 0, 1, 0, 0), some (.istore_n 1, 1, 0, 0), some (.iload_n 1, 1, 0, 0), some (.aload_n 0, 1, 0, 0), some (.getfield 20, 3, 2, 0), none, none, some (.if_icmp .ge 39, 3, 68, 0), none, none],
  [some (.aload_n 0, 1, 0, 0), some (.getfield 11, 3, 2, 2), none, none, some (.aload_n 0, 1, 0, 0), some (.getfield 38, 3, 2, 6), none, none, some (.dup2, 1, 0, 0), some (.iaload, 1, 0, 0), some (.aload_n 0, 1, 0, 0), some (.getfield 27, 3, 2, 4), none, none, some (.iload_n 1, 1, 0, 0), some (.iaload, 1, 0, 0), some (.aload_n 0, 1, 0, 0), some (.getfield 20, 3, 2, 0), none, none, some (.if_icmp .ne 7, 3, 59, 0), none, none, some (.iconst 1, 1, 0, 0), some (.goto 4, 3, 60, 0), none, none, some (.iconst 0, 1, 0, 0), some (.iadd, 1, 0, 0), some (.iastore, 1, 0, 0), some (.iinc 1 1, 3, 0, 0), none],
  [none, some (.goto (-41), 3, 24, 0), none, none, some (.aload_n 0, 1, 0, 0), some (.dup, 1, 0, 0), some (.getfield 38, 3, 2, 6), none, none, some (.iconst 1, 1, 0, 0), some (.iadd, 1, 0, 0), some (.putfield 38, 3, 2, 6), none, none, some (.return_, 1, 0, 0)]]
-- StrandBoxes$Halves.isHalf([I)Z
def ac_X2_isHalf : am_C := [[some (.iconst 0, 1, 0, 0), some (.istore_n 2, 1, 0, 0), some (.iload_n 2, 1, 0, 0), some (.aload_n 0, 1, 0, 0), some (.getfield 20, 3, 2, 0), none, none, some (.if_icmp .ge 54, 3, 61, 0), none, none, some (.aload_n 1, 1, 0, 0), some (.iload_n 2, 1, 0, 0), some (.iaload, 1, 0, 0), some (.istore_n 3, 1, 0, 0), some (.iload_n 3, 1, 0, 0), some (.aload_n 0, 1, 0, 0), some (.getfield 20, 3, 2, 0), none, none, some (.if_icmp .ge 17, 3, 36, 0), none, none, some (.iload_n 3, 1, 0, 0), some (.iload_n 2, 1, 0, 0), some (.if_icmp .eq 10, 3, 34, 0), none, none, some (.aload_n 1, 1, 0, 0), some (.iload_n 3, 1, 0, 0), some (.iaload, 1, 0, 0), some (.iload_n 2, 1, 0, 0), some (.if_icmp .eq 5, 3, 36, 0)],
  [none, none, some (.iconst 0, 1, 0, 0), some (.ireturn, 1, 1, 0), some (.iload_n 3, 1, 0, 0), some (.aload_n 0, 1, 0, 0), some (.getfield 20, 3, 2, 0), none, none, some (.if_icmp .ge 14, 3, 55, 0), none, none, some (.aload_n 1, 1, 0, 0), some (.iload_n 2, 1, 0, 0), some (.iload_n 3, 1, 0, 0), some (.invokestatic 53, 3, 41, 3), none, none, some (.ifCond .ne 5, 3, 55, 0), none, none, some (.iconst 0, 1, 0, 0), some (.ireturn, 1, 1, 0), some (.iinc 2 1, 3, 0, 0), none, none, some (.goto (-56), 3, 2, 0), none, none, some (.iconst 1, 1, 0, 0), some (.ireturn, 1, 1, 0)]]
-- StrandBoxes$Halves.keepsWithin([III)Z
def ac_X2_keepsWithin : am_C := [[some (.iload_n 1, 1, 0, 0), some (.iconst 1, 1, 0, 0), some (.iadd, 1, 0, 0), some (.istore_n 3, 1, 0, 0), some (.iload_n 3, 1, 0, 0), some (.iload_n 2, 1, 0, 0), some (.if_icmp .ge 25, 3, 31, 0), none, none, some (.aload_n 0, 1, 0, 0), some (.iload_n 3, 1, 0, 0), some (.iaload, 1, 0, 0), some (.iload_n 1, 1, 0, 0), some (.if_icmp .le 10, 3, 23, 0), none, none, some (.aload_n 0, 1, 0, 0), some (.iload_n 3, 1, 0, 0), some (.iaload, 1, 0, 0), some (.iload_n 2, 1, 0, 0), some (.if_icmp .lt 5, 3, 25, 0), none, none, some (.iconst 0, 1, 0, 0), some (.ireturn, 1, 1, 0), some (.iinc 3 1, 3, 0, 0), none, none, some (.goto (-24), 3, 4, 0), none, none, some (.iconst 1, 1, 0, 0)],
  [some (.ireturn, 1, 1, 0)]]
-- StrandBoxes$Halves.countLeaving(I)I
def ac_X2_countLeaving : am_C := [[some (.iconst 0, 1, 0, 0), some (.istore_n 2, 1, 0, 0), some (.iconst 0, 1, 0, 0), some (.istore_n 3, 1, 0, 0), some (.iload_n 3, 1, 0, 0), some (.aload_n 0, 1, 0, 0), some (.getfield 38, 3, 2, 6), none, none, some (.if_icmp .ge 27, 3, 36, 0), none, none, some (.iload_n 2, 1, 0, 0), some (.aload_n 0, 1, 0, 0), some (.getfield 11, 3, 2, 2), none, none, some (.iload_n 3, 1, 0, 0), some (.iaload, 1, 0, 0), some (.iload_n 1, 1, 0, 0), some (.if_icmp .ne 7, 3, 27, 0), none, none, some (.iconst 1, 1, 0, 0), some (.goto 4, 3, 28, 0), none, none, some (.iconst 0, 1, 0, 0), some (.iadd, 1, 0, 0), some (.istore_n 2, 1, 0, 0), some (.iinc 3 1, 3, 0, 0), none],
  [none, some (.goto (-29), 3, 4, 0), none, none, some (.iload_n 2, 1, 0, 0), some (.ireturn, 1, 0, 0)]]
-- StrandBoxes$Halves.find(II)I
def ac_X2_find : am_C := [[some (.iconst 0, 1, 0, 0), some (.istore_n 3, 1, 0, 0), some (.iconst 0, 1, 0, 0), some (.istore 4, 2, 0, 0), none, some (.iload 4, 2, 0, 0), none, some (.aload_n 0, 1, 0, 0), some (.getfield 38, 3, 2, 6), none, none, some (.if_icmp .ge 31, 3, 42, 0), none, none, some (.aload_n 0, 1, 0, 0), some (.getfield 11, 3, 2, 2), none, none, some (.iload 4, 2, 0, 0), none, some (.iaload, 1, 0, 0), some (.iload_n 1, 1, 0, 0), some (.if_icmp .ne 14, 3, 36, 0), none, none, some (.iload_n 3, 1, 0, 0), some (.iload_n 2, 1, 0, 0), some (.if_icmp .ne 6, 3, 33, 0), none, none, some (.iload 4, 2, 0, 0), none],
  [some (.ireturn, 1, 0, 0), some (.iinc 3 1, 3, 0, 0), none, none, some (.iinc 4 1, 3, 0, 0), none, none, some (.goto (-34), 3, 5, 0), none, none, some (.iconst (-1), 1, 0, 0), some (.ireturn, 1, 0, 0)]]
-- StrandBoxes$Halves.lay(II)I
def ac_X2_lay : am_C := [[some (.iconst 0, 1, 0, 0), some (.istore_n 3, 1, 0, 0), some (.iload_n 3, 1, 0, 0), some (.aload_n 0, 1, 0, 0), some (.getfield 20, 3, 2, 0), none, none, some (.if_icmp .ge 16, 3, 23, 0), none, none, some (.aload_n 0, 1, 0, 0), some (.getfield 30, 3, 2, 5), none, none, some (.iload_n 3, 1, 0, 0), some (.iconst 0, 1, 0, 0), some (.bastore, 1, 0, 0), some (.iinc 3 1, 3, 0, 0), none, none, some (.goto (-18), 3, 2, 0), none, none, some (.iconst 0, 1, 0, 0), some (.istore_n 3, 1, 0, 0), some (.iload_n 3, 1, 0, 0), some (.aload_n 0, 1, 0, 0), some (.getfield 20, 3, 2, 0), none, none, some (.if_icmp .ge 47, 3, 77, 0), none],
  [none, some (.aload_n 0, 1, 0, 0), some (.getfield 24, 3, 2, 1), none, none, some (.iload_n 1, 1, 0, 0), some (.aaload, 1, 0, 0), some (.iload_n 3, 1, 0, 0), some (.iaload, 1, 0, 0), some (.aload_n 0, 1, 0, 0), some (.getfield 20, 3, 2, 0), none, none, some (.if_icmp .ne 26, 3, 71, 0), none, none, some (.aload_n 0, 1, 0, 0), some (.aload_n 0, 1, 0, 0), some (.getfield 24, 3, 2, 1), none, none, some (.iload_n 1, 1, 0, 0), some (.aaload, 1, 0, 0), some (.aload_n 0, 1, 0, 0), some (.getfield 24, 3, 2, 1), none, none, some (.iload_n 2, 1, 0, 0), some (.aaload, 1, 0, 0), some (.iload_n 3, 1, 0, 0), some (.invokevirtual 57, 3, 3045, 4), none],
  [none, some (.ifCond .ne 6, 3, 71, 0), none, none, some (.bipush (-4), 2, 0, 0), none, some (.ireturn, 1, 0, 0), some (.iinc 3 1, 3, 0, 0), none, none, some (.goto (-49), 3, 25, 0), none, none, some (.iconst 0, 1, 0, 0), some (.istore_n 3, 1, 0, 0), some (.iconst 0, 1, 0, 0), some (.istore 4, 2, 0, 0), none, some (.iload 4, 2, 0, 0), none, some (.aload_n 0, 1, 0, 0), some (.getfield 20, 3, 2, 0), none, none, some (.if_icmp .ge 40, 3, 128, 0), none, none, some (.aload_n 0, 1, 0, 0), some (.getfield 30, 3, 2, 5), none, none, some (.iload 4, 2, 0, 0)],
  [none, some (.baload, 1, 0, 0), some (.ifCond .ne 24, 3, 122, 0), none, none, some (.iinc 3 1, 3, 0, 0), none, none, some (.aload_n 0, 1, 0, 0), some (.aload_n 0, 1, 0, 0), some (.getfield 24, 3, 2, 1), none, none, some (.iload_n 1, 1, 0, 0), some (.aaload, 1, 0, 0), some (.aload_n 0, 1, 0, 0), some (.getfield 24, 3, 2, 1), none, none, some (.iload_n 2, 1, 0, 0), some (.aaload, 1, 0, 0), some (.iload 4, 2, 0, 0), none, some (.invokevirtual 61, 3, 3046, 4), none, none, some (.iinc 4 1, 3, 0, 0), none, none, some (.goto (-43), 3, 82, 0), none, none],
  [some (.iload_n 3, 1, 0, 0), some (.ireturn, 1, 0, 0)]]
-- StrandBoxes$Halves.leadsOut([I[II)Z
def ac_X2_leadsOut : am_C := [[some (.iload_n 3, 1, 0, 0), some (.istore 4, 2, 0, 0), none, some (.iconst 0, 1, 0, 0), some (.istore 5, 2, 0, 0), none, some (.iload 5, 2, 0, 0), none, some (.aload_n 0, 1, 0, 0), some (.getfield 20, 3, 2, 0), none, none, some (.if_icmp .ge 59, 3, 71, 0), none, none, some (.aload_n 0, 1, 0, 0), some (.getfield 30, 3, 2, 5), none, none, some (.iload 4, 2, 0, 0), none, some (.iconst 1, 1, 0, 0), some (.bastore, 1, 0, 0), some (.aload_n 2, 1, 0, 0), some (.iload 4, 2, 0, 0), none, some (.iaload, 1, 0, 0), some (.istore 6, 2, 0, 0), none, some (.iload 6, 2, 0, 0), none, some (.aload_n 0, 1, 0, 0)],
  [some (.getfield 20, 3, 2, 0), none, none, some (.if_icmp .ne 5, 3, 40, 0), none, none, some (.iconst 1, 1, 0, 0), some (.ireturn, 1, 1, 0), some (.aload_n 0, 1, 0, 0), some (.getfield 30, 3, 2, 5), none, none, some (.iload 6, 2, 0, 0), none, some (.iconst 1, 1, 0, 0), some (.bastore, 1, 0, 0), some (.aload_n 1, 1, 0, 0), some (.iload 6, 2, 0, 0), none, some (.iaload, 1, 0, 0), some (.istore 4, 2, 0, 0), none, some (.iload 4, 2, 0, 0), none, some (.aload_n 0, 1, 0, 0), some (.getfield 20, 3, 2, 0), none, none, some (.if_icmp .ne 5, 3, 65, 0), none, none, some (.iconst 0, 1, 0, 0)],
  [some (.ireturn, 1, 1, 0), some (.iinc 5 1, 3, 0, 0), none, none, some (.goto (-62), 3, 6, 0), none, none, some (.iconst 0, 1, 0, 0), some (.ireturn, 1, 1, 0)]]
-- StrandBoxes$Halves.goRound([I[II)V
def ac_X2_goRound : am_C := [[some (.iload_n 3, 1, 0, 0), some (.istore 4, 2, 0, 0), none, some (.iconst 0, 1, 0, 0), some (.istore 5, 2, 0, 0), none, some (.iload 5, 2, 0, 0), none, some (.aload_n 0, 1, 0, 0), some (.getfield 20, 3, 2, 0), none, none, some (.if_icmp .ge 65, 3, 77, 0), none, none, some (.iload 4, 2, 0, 0), none, some (.aload_n 0, 1, 0, 0), some (.getfield 20, 3, 2, 0), none, none, some (.if_icmp .ge 56, 3, 77, 0), none, none, some (.aload_n 0, 1, 0, 0), some (.getfield 30, 3, 2, 5), none, none, some (.iload 4, 2, 0, 0), none, some (.baload, 1, 0, 0), some (.ifCond .ne 46, 3, 77, 0)],
  [none, none, some (.aload_n 0, 1, 0, 0), some (.getfield 30, 3, 2, 5), none, none, some (.iload 4, 2, 0, 0), none, some (.iconst 1, 1, 0, 0), some (.bastore, 1, 0, 0), some (.aload_n 2, 1, 0, 0), some (.iload 4, 2, 0, 0), none, some (.iaload, 1, 0, 0), some (.istore 6, 2, 0, 0), none, some (.iload 6, 2, 0, 0), none, some (.aload_n 0, 1, 0, 0), some (.getfield 20, 3, 2, 0), none, none, some (.if_icmp .ge 17, 3, 71, 0), none, none, some (.aload_n 0, 1, 0, 0), some (.getfield 30, 3, 2, 5), none, none, some (.iload 6, 2, 0, 0), none, some (.iconst 1, 1, 0, 0)],
  [some (.bastore, 1, 0, 0), some (.aload_n 1, 1, 0, 0), some (.iload 6, 2, 0, 0), none, some (.iaload, 1, 0, 0), some (.istore 4, 2, 0, 0), none, some (.iinc 5 1, 3, 0, 0), none, none, some (.goto (-68), 3, 6, 0), none, none, some (.return_, 1, 0, 0)]]
-- StrandBoxes$Halves.rank(III)I
def ac_X2_rank : am_C := [[some (.aload_n 0, 1, 0, 0), some (.iload_n 1, 1, 0, 0), some (.iload_n 2, 1, 0, 0), some (.iload_n 3, 1, 0, 0), some (.invokestatic 65, 3, 149, 2), none, none, some (.iload_n 3, 1, 0, 0), some (.invokevirtual 71, 3, 3048, 4), none, none, some (.istore 4, 2, 0, 0), none, some (.iconst 0, 1, 0, 0), some (.istore 5, 2, 0, 0), none, some (.iconst 0, 1, 0, 0), some (.istore 6, 2, 0, 0), none, some (.iload 6, 2, 0, 0), none, some (.iload 4, 2, 0, 0), none, some (.if_icmp .ge 70, 3, 93, 0), none, none, some (.iload 5, 2, 0, 0), none, some (.istore 7, 2, 0, 0), none, some (.iload 7, 2, 0, 0), none],
  [some (.iload 4, 2, 0, 0), none, some (.if_icmp .ge 22, 3, 56, 0), none, none, some (.aload_n 0, 1, 0, 0), some (.getfield 17, 3, 2, 3), none, none, some (.iload 7, 2, 0, 0), none, some (.aaload, 1, 0, 0), some (.iload 6, 2, 0, 0), none, some (.iaload, 1, 0, 0), some (.ifCond .ne 9, 3, 56, 0), none, none, some (.iinc 7 1, 3, 0, 0), none, none, some (.goto (-23), 3, 30, 0), none, none, some (.iload 7, 2, 0, 0), none, some (.iload 4, 2, 0, 0), none, some (.if_icmp .ge 27, 3, 87, 0), none, none, some (.aload_n 0, 1, 0, 0)],
  [some (.iload 7, 2, 0, 0), none, some (.iload 5, 2, 0, 0), none, some (.iload 4, 2, 0, 0), none, some (.invokevirtual 75, 3, 3051, 4), none, none, some (.aload_n 0, 1, 0, 0), some (.iload 5, 2, 0, 0), none, some (.iload 6, 2, 0, 0), none, some (.iload 4, 2, 0, 0), none, some (.iload_n 3, 1, 0, 0), some (.invokevirtual 79, 3, 3052, 5), none, none, some (.iinc 5 1, 3, 0, 0), none, none, some (.iinc 6 1, 3, 0, 0), none, none, some (.goto (-71), 3, 19, 0), none, none, some (.iload 5, 2, 0, 0), none, some (.ireturn, 1, 0, 0)]]
-- StrandBoxes$Halves.fillTable(III)I
def ac_X2_fillTable : am_C := [[some (.iconst 0, 1, 0, 0), some (.istore 4, 2, 0, 0), none, some (.iconst 0, 1, 0, 0), some (.istore 5, 2, 0, 0), none, some (.iload 5, 2, 0, 0), none, some (.aload_n 0, 1, 0, 0), some (.getfield 38, 3, 2, 6), none, none, some (.if_icmp .ge 38, 3, 50, 0), none, none, some (.aload_n 0, 1, 0, 0), some (.getfield 11, 3, 2, 2), none, none, some (.iload 5, 2, 0, 0), none, some (.iaload, 1, 0, 0), some (.iload_n 1, 1, 0, 0), some (.if_icmp .ne 21, 3, 44, 0), none, none, some (.aload_n 0, 1, 0, 0), some (.aload_n 0, 1, 0, 0), some (.getfield 17, 3, 2, 3), none, none, some (.iload 4, 2, 0, 0)],
  [none, some (.aaload, 1, 0, 0), some (.iload 5, 2, 0, 0), none, some (.iload_n 2, 1, 0, 0), some (.iload_n 3, 1, 0, 0), some (.invokevirtual 83, 3, 3049, 5), none, none, some (.iinc 4 1, 3, 0, 0), none, none, some (.iinc 5 1, 3, 0, 0), none, none, some (.goto (-41), 3, 6, 0), none, none, some (.iload 4, 2, 0, 0), none, some (.ireturn, 1, 0, 0)]]
-- StrandBoxes$Halves.fillRow([IIII)V
def ac_X2_fillRow : am_C := [[some (.iconst 0, 1, 0, 0), some (.istore 5, 2, 0, 0), none, some (.iconst 0, 1, 0, 0), some (.istore 6, 2, 0, 0), none, some (.iload 6, 2, 0, 0), none, some (.aload_n 0, 1, 0, 0), some (.getfield 38, 3, 2, 6), none, none, some (.if_icmp .ge 60, 3, 72, 0), none, none, some (.aload_n 0, 1, 0, 0), some (.getfield 11, 3, 2, 2), none, none, some (.iload 6, 2, 0, 0), none, some (.iaload, 1, 0, 0), some (.aload_n 0, 1, 0, 0), some (.getfield 11, 3, 2, 2), none, none, some (.iload_n 2, 1, 0, 0), some (.iaload, 1, 0, 0), some (.if_icmp .ne 38, 3, 66, 0), none, none, some (.aload_n 0, 1, 0, 0)],
  [some (.iload_n 2, 1, 0, 0), some (.iload 6, 2, 0, 0), none, some (.invokevirtual 87, 3, 3044, 3), none, none, some (.istore 7, 2, 0, 0), none, some (.aload_n 1, 1, 0, 0), some (.iload 5, 2, 0, 0), none, some (.iload 7, 2, 0, 0), none, some (.bipush (-4), 2, 0, 0), none, some (.if_icmp .ne 7, 3, 54, 0), none, none, some (.iconst 0, 1, 0, 0), some (.goto 11, 3, 62, 0), none, none, some (.iload_n 3, 1, 0, 0), some (.iload 7, 2, 0, 0), none, some (.iload 4, 2, 0, 0), none, some (.invokestatic 90, 3, 50, 3), none, none, some (.iastore, 1, 0, 0), some (.iinc 5 1, 3, 0, 0)],
  [none, none, some (.iinc 6 1, 3, 0, 0), none, none, some (.goto (-63), 3, 6, 0), none, none, some (.return_, 1, 0, 0)]]
-- StrandBoxes$Halves.raise(III)I
def ac_X2_raise : am_C := [[some (.iconst 1, 1, 0, 0), some (.iload_n 2, 1, 0, 0), some (.irem, 1, 0, 0), some (.istore_n 3, 1, 0, 0), some (.iconst 0, 1, 0, 0), some (.istore 4, 2, 0, 0), none, some (.iload 4, 2, 0, 0), none, some (.iload_n 1, 1, 0, 0), some (.if_icmp .ge 15, 3, 25, 0), none, none, some (.iload_n 3, 1, 0, 0), some (.iload_n 0, 1, 0, 0), some (.imul, 1, 0, 0), some (.iload_n 2, 1, 0, 0), some (.irem, 1, 0, 0), some (.istore_n 3, 1, 0, 0), some (.iinc 4 1, 3, 0, 0), none, none, some (.goto (-15), 3, 7, 0), none, none, some (.iload_n 3, 1, 0, 0), some (.ireturn, 1, 0, 0)]]
-- StrandBoxes$Halves.swapRows(III)V
def ac_X2_swapRows : am_C := [[some (.iconst 0, 1, 0, 0), some (.istore 4, 2, 0, 0), none, some (.iload 4, 2, 0, 0), none, some (.iload_n 3, 1, 0, 0), some (.if_icmp .ge 49, 3, 55, 0), none, none, some (.aload_n 0, 1, 0, 0), some (.getfield 17, 3, 2, 3), none, none, some (.iload_n 1, 1, 0, 0), some (.aaload, 1, 0, 0), some (.iload 4, 2, 0, 0), none, some (.iaload, 1, 0, 0), some (.istore 5, 2, 0, 0), none, some (.aload_n 0, 1, 0, 0), some (.getfield 17, 3, 2, 3), none, none, some (.iload_n 1, 1, 0, 0), some (.aaload, 1, 0, 0), some (.iload 4, 2, 0, 0), none, some (.aload_n 0, 1, 0, 0), some (.getfield 17, 3, 2, 3), none, none],
  [some (.iload_n 2, 1, 0, 0), some (.aaload, 1, 0, 0), some (.iload 4, 2, 0, 0), none, some (.iaload, 1, 0, 0), some (.iastore, 1, 0, 0), some (.aload_n 0, 1, 0, 0), some (.getfield 17, 3, 2, 3), none, none, some (.iload_n 2, 1, 0, 0), some (.aaload, 1, 0, 0), some (.iload 4, 2, 0, 0), none, some (.iload 5, 2, 0, 0), none, some (.iastore, 1, 0, 0), some (.iinc 4 1, 3, 0, 0), none, none, some (.goto (-49), 3, 3, 0), none, none, some (.return_, 1, 0, 0)]]
-- StrandBoxes$Halves.clearBelow(IIII)V
def ac_X2_clearBelow : am_C := [[some (.aload_n 0, 1, 0, 0), some (.getfield 17, 3, 2, 3), none, none, some (.iload_n 1, 1, 0, 0), some (.aaload, 1, 0, 0), some (.iload_n 2, 1, 0, 0), some (.iaload, 1, 0, 0), some (.istore 5, 2, 0, 0), none, some (.iload_n 1, 1, 0, 0), some (.iconst 1, 1, 0, 0), some (.iadd, 1, 0, 0), some (.istore 6, 2, 0, 0), none, some (.iload 6, 2, 0, 0), none, some (.iload_n 3, 1, 0, 0), some (.if_icmp .ge 76, 3, 94, 0), none, none, some (.aload_n 0, 1, 0, 0), some (.getfield 17, 3, 2, 3), none, none, some (.iload 6, 2, 0, 0), none, some (.aaload, 1, 0, 0), some (.iload_n 2, 1, 0, 0), some (.iaload, 1, 0, 0), some (.istore 7, 2, 0, 0), none],
  [some (.iconst 0, 1, 0, 0), some (.istore 8, 2, 0, 0), none, some (.iload 8, 2, 0, 0), none, some (.iload_n 3, 1, 0, 0), some (.if_icmp .ge 50, 3, 88, 0), none, none, some (.aload_n 0, 1, 0, 0), some (.getfield 17, 3, 2, 3), none, none, some (.iload 6, 2, 0, 0), none, some (.aaload, 1, 0, 0), some (.iload 8, 2, 0, 0), none, some (.aload_n 0, 1, 0, 0), some (.getfield 17, 3, 2, 3), none, none, some (.iload 6, 2, 0, 0), none, some (.aaload, 1, 0, 0), some (.iload 8, 2, 0, 0), none, some (.iaload, 1, 0, 0), some (.iload 5, 2, 0, 0), none, some (.imul, 1, 0, 0), some (.aload_n 0, 1, 0, 0)],
  [some (.getfield 17, 3, 2, 3), none, none, some (.iload_n 1, 1, 0, 0), some (.aaload, 1, 0, 0), some (.iload 8, 2, 0, 0), none, some (.iaload, 1, 0, 0), some (.iload 7, 2, 0, 0), none, some (.imul, 1, 0, 0), some (.isub, 1, 0, 0), some (.iload 4, 2, 0, 0), none, some (.invokestatic 65, 3, 149, 2), none, none, some (.iastore, 1, 0, 0), some (.iinc 8 1, 3, 0, 0), none, none, some (.goto (-50), 3, 35, 0), none, none, some (.iinc 6 1, 3, 0, 0), none, none, some (.goto (-76), 3, 15, 0), none, none, some (.return_, 1, 0, 0)]]
-- StrandBoxes$Sum.<init>()V
def ac_X3_init : am_C := [[some (.aload_n 0, 1, 0, 0), some (.invokespecial 3, 3, 900, 1), none, none, some (.aload_n 0, 1, 0, 0), some (.iconst 2, 1, 0, 0), some (.putfield 9, 3, 3, 0), none, none, some (.aload_n 0, 1, 0, 0), some (.bipush 40, 2, 0, 0), none, some (.newarray .int, 2, 0, 0), none, some (.putfield 15, 3, 3, 2), none, none, some (.aload_n 0, 1, 0, 0), some (.bipush 40, 2, 0, 0), none, some (.newarray .int, 2, 0, 0), none, some (.putfield 19, 3, 3, 3), none, none, some (.aload_n 0, 1, 0, 0), some (.bipush 40, 2, 0, 0), none, some (.newarray .long, 2, 2, 0), none, some (.putfield 22, 3, 3, 4), none],
  [none, some (.return_, 1, 0, 0)]]
-- StrandBoxes$Sum.begin(I)V
def ac_X3_begin : am_C := [[some (.aload_n 0, 1, 0, 0), some (.iload_n 1, 1, 0, 0), some (.putfield 9, 3, 3, 0), none, none, some (.aload_n 0, 1, 0, 0), some (.iconst 0, 1, 0, 0), some (.putfield 26, 3, 3, 1), none, none, some (.return_, 1, 0, 0)]]
-- StrandBoxes$Sum.take(LStrandBoxes$Sum;)V
def ac_X3_take : am_C := [[some (.aload_n 0, 1, 0, 0), some (.aload_n 1, 1, 0, 0), some (.getfield 9, 3, 3, 0), none, none, some (.putfield 9, 3, 3, 0), none, none, some (.aload_n 0, 1, 0, 0), some (.aload_n 1, 1, 0, 0), some (.getfield 26, 3, 3, 1), none, none, some (.putfield 26, 3, 3, 1), none, none, some (.aload_n 1, 1, 0, 0), some (.getfield 15, 3, 3, 2), none, none, some (.iconst 0, 1, 0, 0), some (.aload_n 0, 1, 0, 0), some (.getfield 15, 3, 3, 2), none, none, some (.iconst 0, 1, 0, 0), some (.aload_n 0, 1, 0, 0), some (.getfield 26, 3, 3, 1), none, none, some (.invokestatic 29, 3, 901, 5), none],
  [none, some (.aload_n 1, 1, 0, 0), some (.getfield 19, 3, 3, 3), none, none, some (.iconst 0, 1, 0, 0), some (.aload_n 0, 1, 0, 0), some (.getfield 19, 3, 3, 3), none, none, some (.iconst 0, 1, 0, 0), some (.aload_n 0, 1, 0, 0), some (.getfield 26, 3, 3, 1), none, none, some (.invokestatic 29, 3, 901, 5), none, none, some (.aload_n 1, 1, 0, 0), some (.getfield 22, 3, 3, 4), none, none, some (.iconst 0, 1, 0, 0), some (.aload_n 0, 1, 0, 0), some (.getfield 22, 3, 3, 4), none, none, some (.iconst 0, 1, 0, 0), some (.aload_n 0, 1, 0, 0), some (.getfield 26, 3, 3, 1), none, none],
  [some (.invokestatic 29, 3, 901, 5), none, none, some (.return_, 1, 0, 0)]]
-- StrandBoxes$Sum.isLike(LStrandBoxes$Sum;)Z
def ac_X3_isLike : am_C := [[some (.aload_n 0, 1, 0, 0), some (.getfield 9, 3, 3, 0), none, none, some (.aload_n 1, 1, 0, 0), some (.getfield 9, 3, 3, 0), none, none, some (.if_icmp .ne 14, 3, 22, 0), none, none, some (.aload_n 0, 1, 0, 0), some (.getfield 26, 3, 3, 1), none, none, some (.aload_n 1, 1, 0, 0), some (.getfield 26, 3, 3, 1), none, none, some (.if_icmp .eq 5, 3, 24, 0), none, none, some (.iconst 0, 1, 0, 0), some (.ireturn, 1, 1, 0), some (.iconst 0, 1, 0, 0), some (.istore_n 2, 1, 0, 0), some (.iload_n 2, 1, 0, 0), some (.aload_n 0, 1, 0, 0), some (.getfield 26, 3, 3, 1), none, none, some (.if_icmp .ge 47, 3, 78, 0)],
  [none, none, some (.aload_n 0, 1, 0, 0), some (.iload_n 2, 1, 0, 0), some (.aload_n 1, 1, 0, 0), some (.getfield 15, 3, 3, 2), none, none, some (.iload_n 2, 1, 0, 0), some (.iaload, 1, 0, 0), some (.aload_n 1, 1, 0, 0), some (.getfield 19, 3, 3, 3), none, none, some (.iload_n 2, 1, 0, 0), some (.iaload, 1, 0, 0), some (.invokevirtual 35, 3, 4057, 4), none, none, some (.ifCond .eq 19, 3, 70, 0), none, none, some (.aload_n 0, 1, 0, 0), some (.getfield 22, 3, 3, 4), none, none, some (.iload_n 2, 1, 0, 0), some (.laload, 1, 0, 0), some (.aload_n 1, 1, 0, 0), some (.getfield 22, 3, 3, 4), none, none],
  [some (.iload_n 2, 1, 0, 0), some (.laload, 1, 0, 0), some (.lcmp, 1, 0, 0), some (.ifCond .eq 5, 3, 72, 0), none, none, some (.iconst 0, 1, 0, 0), some (.ireturn, 1, 1, 0), some (.iinc 2 1, 3, 0, 0), none, none, some (.goto (-49), 3, 26, 0), none, none, some (.iconst 1, 1, 0, 0), some (.ireturn, 1, 1, 0)]]
-- StrandBoxes$Sum.isAt(III)Z
def ac_X3_isAt : am_C := [[some (.iload_n 1, 1, 0, 0), some (.aload_n 0, 1, 0, 0), some (.getfield 26, 3, 3, 1), none, none, some (.if_icmp .ge 27, 3, 32, 0), none, none, some (.aload_n 0, 1, 0, 0), some (.getfield 15, 3, 3, 2), none, none, some (.iload_n 1, 1, 0, 0), some (.iaload, 1, 0, 0), some (.iload_n 2, 1, 0, 0), some (.if_icmp .ne 17, 3, 32, 0), none, none, some (.aload_n 0, 1, 0, 0), some (.getfield 19, 3, 3, 3), none, none, some (.iload_n 1, 1, 0, 0), some (.iaload, 1, 0, 0), some (.iload_n 3, 1, 0, 0), some (.if_icmp .ne 7, 3, 32, 0), none, none, some (.iconst 1, 1, 0, 0), some (.goto 4, 3, 33, 0), none, none],
  [some (.iconst 0, 1, 0, 0), some (.ireturn, 1, 1, 0)]]
-- StrandBoxes$Sum.isFactor(J)Z
def ac_X3_isFactor : am_C := [[some (.lload_n 0, 1, 0, 0), some (.ldc2_w 39, 3, 1, 999999999999), none, none, some (.lcmp, 1, 0, 0), some (.ifCond .lt 15, 3, 20, 0), none, none, some (.lload_n 0, 1, 0, 0), some (.ldc2_w 41, 3, 0, 1000000000000), none, none, some (.lcmp, 1, 0, 0), some (.ifCond .gt 7, 3, 20, 0), none, none, some (.iconst 1, 1, 0, 0), some (.goto 4, 3, 21, 0), none, none, some (.iconst 0, 1, 0, 0), some (.ireturn, 1, 1, 0)]]
-- StrandBoxes$Sum.join(IIJ)Z
def ac_X3_join : am_C := [[some (.iload_n 2, 1, 0, 0), some (.bipush 20, 2, 0, 0), none, some (.if_icmp .gt 10, 3, 13, 0), none, none, some (.lload_n 3, 1, 0, 0), some (.invokestatic 43, 3, 58, 1), none, none, some (.ifCond .ne 5, 3, 15, 0), none, none, some (.iconst 0, 1, 0, 0), some (.ireturn, 1, 1, 0), some (.iconst 0, 1, 0, 0), some (.istore 5, 2, 0, 0), none, some (.iload 5, 2, 0, 0), none, some (.aload_n 0, 1, 0, 0), some (.getfield 26, 3, 3, 1), none, none, some (.if_icmp .ge 42, 3, 66, 0), none, none, some (.aload_n 0, 1, 0, 0), some (.getfield 15, 3, 3, 2), none, none, some (.iload 5, 2, 0, 0)],
  [none, some (.iaload, 1, 0, 0), some (.iload_n 1, 1, 0, 0), some (.if_icmp .lt 25, 3, 60, 0), none, none, some (.aload_n 0, 1, 0, 0), some (.getfield 15, 3, 3, 2), none, none, some (.iload 5, 2, 0, 0), none, some (.iaload, 1, 0, 0), some (.iload_n 1, 1, 0, 0), some (.if_icmp .ne 20, 3, 66, 0), none, none, some (.aload_n 0, 1, 0, 0), some (.getfield 19, 3, 3, 3), none, none, some (.iload 5, 2, 0, 0), none, some (.iaload, 1, 0, 0), some (.iload_n 2, 1, 0, 0), some (.if_icmp .ge 9, 3, 66, 0), none, none, some (.iinc 5 1, 3, 0, 0), none, none, some (.goto (-45), 3, 18, 0)],
  [none, none, some (.aload_n 0, 1, 0, 0), some (.iload 5, 2, 0, 0), none, some (.iload_n 1, 1, 0, 0), some (.iload_n 2, 1, 0, 0), some (.invokevirtual 35, 3, 4057, 4), none, none, some (.ifCond .eq 19, 3, 93, 0), none, none, some (.aload_n 0, 1, 0, 0), some (.iload 5, 2, 0, 0), none, some (.aload_n 0, 1, 0, 0), some (.getfield 22, 3, 3, 4), none, none, some (.iload 5, 2, 0, 0), none, some (.laload, 1, 0, 0), some (.lload_n 3, 1, 0, 0), some (.ladd, 1, 0, 0), some (.invokevirtual 47, 3, 4060, 3), none, none, some (.ireturn, 1, 1, 0), some (.lload_n 3, 1, 0, 0), some (.lconst 0, 1, 0, 0), some (.lcmp, 1, 0, 0)],
  [some (.ifCond .ne 5, 3, 101, 0), none, none, some (.iconst 1, 1, 0, 0), some (.ireturn, 1, 1, 0), some (.aload_n 0, 1, 0, 0), some (.iload 5, 2, 0, 0), none, some (.iload_n 1, 1, 0, 0), some (.iload_n 2, 1, 0, 0), some (.lload_n 3, 1, 0, 0), some (.invokevirtual 51, 3, 4061, 5), none, none, some (.ireturn, 1, 1, 0)]]
-- StrandBoxes$Sum.change(IJ)Z
def ac_X3_change : am_C := [[some (.lload_n 2, 1, 0, 0), some (.invokestatic 43, 3, 58, 1), none, none, some (.ifCond .ne 5, 3, 9, 0), none, none, some (.iconst 0, 1, 0, 0), some (.ireturn, 1, 1, 0), some (.lload_n 2, 1, 0, 0), some (.lconst 0, 1, 0, 0), some (.lcmp, 1, 0, 0), some (.ifCond .ne 24, 3, 36, 0), none, none, some (.aload_n 0, 1, 0, 0), some (.iload_n 1, 1, 0, 0), some (.iconst 1, 1, 0, 0), some (.iadd, 1, 0, 0), some (.iload_n 1, 1, 0, 0), some (.invokevirtual 55, 3, 4062, 3), none, none, some (.aload_n 0, 1, 0, 0), some (.dup, 1, 0, 0), some (.getfield 26, 3, 3, 1), none, none, some (.iconst 1, 1, 0, 0), some (.isub, 1, 0, 0), some (.putfield 26, 3, 3, 1), none],
  [none, some (.goto 10, 3, 43, 0), none, none, some (.aload_n 0, 1, 0, 0), some (.getfield 22, 3, 3, 4), none, none, some (.iload_n 1, 1, 0, 0), some (.lload_n 2, 1, 0, 0), some (.lastore, 1, 0, 0), some (.iconst 1, 1, 0, 0), some (.ireturn, 1, 1, 0)]]
-- StrandBoxes$Sum.insert(IIIJ)Z
def ac_X3_insert : am_C := [[some (.aload_n 0, 1, 0, 0), some (.getfield 26, 3, 3, 1), none, none, some (.bipush 40, 2, 0, 0), none, some (.if_icmp .lt 5, 3, 11, 0), none, none, some (.iconst 0, 1, 0, 0), some (.ireturn, 1, 1, 0), some (.aload_n 0, 1, 0, 0), some (.iload_n 1, 1, 0, 0), some (.iload_n 1, 1, 0, 0), some (.iconst 1, 1, 0, 0), some (.iadd, 1, 0, 0), some (.invokevirtual 55, 3, 4062, 3), none, none, some (.aload_n 0, 1, 0, 0), some (.dup, 1, 0, 0), some (.getfield 26, 3, 3, 1), none, none, some (.iconst 1, 1, 0, 0), some (.iadd, 1, 0, 0), some (.putfield 26, 3, 3, 1), none, none, some (.aload_n 0, 1, 0, 0), some (.getfield 15, 3, 3, 2), none],
  [none, some (.iload_n 1, 1, 0, 0), some (.iload_n 2, 1, 0, 0), some (.iastore, 1, 0, 0), some (.aload_n 0, 1, 0, 0), some (.getfield 19, 3, 3, 3), none, none, some (.iload_n 1, 1, 0, 0), some (.iload_n 3, 1, 0, 0), some (.iastore, 1, 0, 0), some (.aload_n 0, 1, 0, 0), some (.getfield 22, 3, 3, 4), none, none, some (.iload_n 1, 1, 0, 0), some (.lload 4, 2, 0, 0), none, some (.lastore, 1, 0, 0), some (.iconst 1, 1, 0, 0), some (.ireturn, 1, 1, 0)]]
-- StrandBoxes$Sum.moveTail(II)V
def ac_X3_moveTail : am_C := [[some (.aload_n 0, 1, 0, 0), some (.getfield 26, 3, 3, 1), none, none, some (.iload_n 1, 1, 0, 0), some (.isub, 1, 0, 0), some (.istore_n 3, 1, 0, 0), some (.aload_n 0, 1, 0, 0), some (.getfield 15, 3, 3, 2), none, none, some (.iload_n 1, 1, 0, 0), some (.aload_n 0, 1, 0, 0), some (.getfield 15, 3, 3, 2), none, none, some (.iload_n 2, 1, 0, 0), some (.iload_n 3, 1, 0, 0), some (.invokestatic 29, 3, 901, 5), none, none, some (.aload_n 0, 1, 0, 0), some (.getfield 19, 3, 3, 3), none, none, some (.iload_n 1, 1, 0, 0), some (.aload_n 0, 1, 0, 0), some (.getfield 19, 3, 3, 3), none, none, some (.iload_n 2, 1, 0, 0), some (.iload_n 3, 1, 0, 0)],
  [some (.invokestatic 29, 3, 901, 5), none, none, some (.aload_n 0, 1, 0, 0), some (.getfield 22, 3, 3, 4), none, none, some (.iload_n 1, 1, 0, 0), some (.aload_n 0, 1, 0, 0), some (.getfield 22, 3, 3, 4), none, none, some (.iload_n 2, 1, 0, 0), some (.iload_n 3, 1, 0, 0), some (.invokestatic 29, 3, 901, 5), none, none, some (.return_, 1, 0, 0)]]
-- StrandBoxes$Sum.joinAll(LStrandBoxes$Sum;I)Z
def ac_X3_joinAll : am_C := [[some (.iconst 0, 1, 0, 0), some (.istore_n 3, 1, 0, 0), some (.iload_n 3, 1, 0, 0), some (.aload_n 1, 1, 0, 0), some (.getfield 26, 3, 3, 1), none, none, some (.if_icmp .ge 39, 3, 46, 0), none, none, some (.aload_n 0, 1, 0, 0), some (.aload_n 1, 1, 0, 0), some (.getfield 15, 3, 3, 2), none, none, some (.iload_n 3, 1, 0, 0), some (.iaload, 1, 0, 0), some (.aload_n 1, 1, 0, 0), some (.getfield 19, 3, 3, 3), none, none, some (.iload_n 3, 1, 0, 0), some (.iaload, 1, 0, 0), some (.iload_n 2, 1, 0, 0), some (.i2l, 1, 0, 0), some (.aload_n 1, 1, 0, 0), some (.getfield 22, 3, 3, 4), none, none, some (.iload_n 3, 1, 0, 0), some (.laload, 1, 0, 0), some (.lmul, 1, 0, 0)],
  [some (.invokevirtual 59, 3, 4059, 4), none, none, some (.ifCond .ne 5, 3, 40, 0), none, none, some (.iconst 0, 1, 0, 0), some (.ireturn, 1, 1, 0), some (.iinc 3 1, 3, 0, 0), none, none, some (.goto (-41), 3, 2, 0), none, none, some (.iconst 1, 1, 0, 0), some (.ireturn, 1, 1, 0)]]
-- StrandBoxes$Sum.joinProducts(LStrandBoxes$Sum;LStrandBoxes$Sum;LStrandBoxes$Boxes;)Z
def ac_X3_joinProducts : am_C := [[some (.iconst 0, 1, 0, 0), some (.istore 4, 2, 0, 0), none, some (.iload 4, 2, 0, 0), none, some (.aload_n 1, 1, 0, 0), some (.getfield 26, 3, 3, 1), none, none, some (.if_icmp .ge 125, 3, 134, 0), none, none, some (.iconst 0, 1, 0, 0), some (.istore 5, 2, 0, 0), none, some (.iload 5, 2, 0, 0), none, some (.aload_n 2, 1, 0, 0), some (.getfield 26, 3, 3, 1), none, none, some (.if_icmp .ge 107, 3, 128, 0), none, none, some (.aload_n 1, 1, 0, 0), some (.getfield 22, 3, 3, 4), none, none, some (.iload 4, 2, 0, 0), none, some (.laload, 1, 0, 0), some (.aload_n 2, 1, 0, 0)],
  [some (.getfield 22, 3, 3, 4), none, none, some (.iload 5, 2, 0, 0), none, some (.laload, 1, 0, 0), some (.invokestatic 63, 3, 65, 2), none, none, some (.ifCond .ne 5, 3, 46, 0), none, none, some (.iconst 0, 1, 0, 0), some (.ireturn, 1, 1, 0), some (.aload_n 3, 1, 0, 0), some (.aload_n 1, 1, 0, 0), some (.getfield 15, 3, 3, 2), none, none, some (.iload 4, 2, 0, 0), none, some (.iaload, 1, 0, 0), some (.aload_n 2, 1, 0, 0), some (.getfield 15, 3, 3, 2), none, none, some (.iload 5, 2, 0, 0), none, some (.iaload, 1, 0, 0), some (.invokevirtual 67, 3, 1028, 3), none, none],
  [some (.istore 6, 2, 0, 0), none, some (.aload_n 1, 1, 0, 0), some (.getfield 19, 3, 3, 3), none, none, some (.iload 4, 2, 0, 0), none, some (.iaload, 1, 0, 0), some (.aload_n 2, 1, 0, 0), some (.getfield 19, 3, 3, 3), none, none, some (.iload 5, 2, 0, 0), none, some (.iaload, 1, 0, 0), some (.iadd, 1, 0, 0), some (.iload 6, 2, 0, 0), none, some (.sipush 1000, 3, 0, 0), none, none, some (.idiv, 1, 0, 0), some (.iadd, 1, 0, 0), some (.istore 7, 2, 0, 0), none, some (.aload_n 0, 1, 0, 0), some (.iload 6, 2, 0, 0), none, some (.sipush 1000, 3, 0, 0), none, none],
  [some (.irem, 1, 0, 0), some (.iload 7, 2, 0, 0), none, some (.aload_n 1, 1, 0, 0), some (.getfield 22, 3, 3, 4), none, none, some (.iload 4, 2, 0, 0), none, some (.laload, 1, 0, 0), some (.aload_n 2, 1, 0, 0), some (.getfield 22, 3, 3, 4), none, none, some (.iload 5, 2, 0, 0), none, some (.laload, 1, 0, 0), some (.lmul, 1, 0, 0), some (.invokevirtual 59, 3, 4059, 4), none, none, some (.ifCond .ne 5, 3, 122, 0), none, none, some (.iconst 0, 1, 0, 0), some (.ireturn, 1, 1, 0), some (.iinc 5 1, 3, 0, 0), none, none, some (.goto (-110), 3, 15, 0), none, none],
  [some (.iinc 4 1, 3, 0, 0), none, none, some (.goto (-128), 3, 3, 0), none, none, some (.iconst 1, 1, 0, 0), some (.ireturn, 1, 1, 0)]]
-- StrandBoxes$Sum.fitsProduct(JJ)Z
def ac_X3_fitsProduct : am_C := [[some (.lload_n 2, 1, 0, 0), some (.lconst 0, 1, 0, 0), some (.lcmp, 1, 0, 0), some (.ifCond .eq 19, 3, 22, 0), none, none, some (.lload_n 0, 1, 0, 0), some (.invokestatic 73, 3, 151, 1), none, none, some (.ldc2_w 41, 3, 0, 1000000000000), none, none, some (.lload_n 2, 1, 0, 0), some (.invokestatic 73, 3, 151, 1), none, none, some (.ldiv, 1, 0, 0), some (.lcmp, 1, 0, 0), some (.ifCond .gt 7, 3, 26, 0), none, none, some (.iconst 1, 1, 0, 0), some (.goto 4, 3, 27, 0), none, none, some (.iconst 0, 1, 0, 0), some (.ireturn, 1, 1, 0)]]
-- StrandBoxes.<init>()V
def ac_X4_init : am_C := [[some (.aload_n 0, 1, 0, 0), some (.invokespecial 3, 3, 900, 1), none, none, some (.aload_n 0, 1, 0, 0), some (.iconst 4, 1, 0, 0), some (.anewarray 9, 3, 4, 0), none, none, some (.putfield 11, 3, 4, 0), none, none, some (.aload_n 0, 1, 0, 0), some (.iconst 4, 1, 0, 0), some (.anewarray 15, 3, 5, 0), none, none, some (.putfield 17, 3, 4, 1), none, none, some (.aload_n 0, 1, 0, 0), some (.bipush 8, 2, 0, 0), none, some (.anewarray 21, 3, 6, 0), none, none, some (.putfield 23, 3, 4, 2), none, none, some (.aload_n 0, 1, 0, 0), some (.new 21, 3, 3, 5), none],
  [none, some (.dup, 1, 0, 0), some (.invokespecial 27, 3, 4053, 1), none, none, some (.putfield 28, 3, 4, 3), none, none, some (.aload_n 0, 1, 0, 0), some (.new 32, 3, 1, 5), none, none, some (.dup, 1, 0, 0), some (.invokespecial 34, 3, 2029, 1), none, none, some (.putfield 35, 3, 4, 4), none, none, some (.iconst 1, 1, 0, 0), some (.istore_n 1, 1, 0, 0), some (.iload_n 1, 1, 0, 0), some (.iconst 4, 1, 0, 0), some (.if_icmp .gt 41, 3, 96, 0), none, none, some (.aload_n 0, 1, 0, 0), some (.getfield 11, 3, 4, 0), none, none, some (.iload_n 1, 1, 0, 0), some (.iconst 1, 1, 0, 0)],
  [some (.isub, 1, 0, 0), some (.new 9, 3, 0, 11), none, none, some (.dup, 1, 0, 0), some (.iload_n 1, 1, 0, 0), some (.invokespecial 39, 3, 1000, 2), none, none, some (.aastore, 1, 0, 0), some (.aload_n 0, 1, 0, 0), some (.getfield 17, 3, 4, 1), none, none, some (.iload_n 1, 1, 0, 0), some (.iconst 1, 1, 0, 0), some (.isub, 1, 0, 0), some (.new 15, 3, 2, 7), none, none, some (.dup, 1, 0, 0), some (.iload_n 1, 1, 0, 0), some (.invokespecial 42, 3, 3037, 2), none, none, some (.aastore, 1, 0, 0), some (.iinc 1 1, 3, 0, 0), none, none, some (.goto (-40), 3, 53, 0), none, none],
  [some (.iconst 0, 1, 0, 0), some (.istore_n 1, 1, 0, 0), some (.iload_n 1, 1, 0, 0), some (.bipush 8, 2, 0, 0), none, some (.if_icmp .ge 22, 3, 123, 0), none, none, some (.aload_n 0, 1, 0, 0), some (.getfield 23, 3, 4, 2), none, none, some (.iload_n 1, 1, 0, 0), some (.new 21, 3, 3, 5), none, none, some (.dup, 1, 0, 0), some (.invokespecial 27, 3, 4053, 1), none, none, some (.aastore, 1, 0, 0), some (.iinc 1 1, 3, 0, 0), none, none, some (.goto (-22), 3, 98, 0), none, none, some (.return_, 1, 0, 0)]]
-- StrandBoxes.many(II)I
def ac_X4_many : am_C := [[some (.iload_n 1, 1, 0, 0), some (.invokestatic 43, 3, 89, 1), none, none, some (.ifCond .eq 12, 3, 16, 0), none, none, some (.iload_n 2, 1, 0, 0), some (.ifCond .lt 8, 3, 16, 0), none, none, some (.iload_n 2, 1, 0, 0), some (.iconst 1, 1, 0, 0), some (.if_icmp .le 5, 3, 18, 0), none, none, some (.iconst (-1), 1, 0, 0), some (.ireturn, 1, 0, 0), some (.iload_n 2, 1, 0, 0), some (.ifCond .ne 17, 3, 36, 0), none, none, some (.aload_n 0, 1, 0, 0), some (.getfield 11, 3, 4, 0), none, none, some (.iload_n 1, 1, 0, 0), some (.iconst 1, 1, 0, 0), some (.isub, 1, 0, 0), some (.aaload, 1, 0, 0), some (.getfield 47, 3, 0, 3), none],
  [none, some (.goto 14, 3, 47, 0), none, none, some (.aload_n 0, 1, 0, 0), some (.getfield 11, 3, 4, 0), none, none, some (.iload_n 1, 1, 0, 0), some (.iconst 1, 1, 0, 0), some (.isub, 1, 0, 0), some (.aaload, 1, 0, 0), some (.invokevirtual 51, 3, 1007, 1), none, none, some (.ireturn, 1, 0, 0)]]
-- StrandBoxes.partner(III)I
def ac_X4_partner : am_C := [[some (.aload_n 0, 1, 0, 0), some (.iload_n 1, 1, 0, 0), some (.iload_n 2, 1, 0, 0), some (.invokevirtual 55, 3, 5092, 3), none, none, some (.ifCond .eq 14, 3, 20, 0), none, none, some (.iload_n 3, 1, 0, 0), some (.ifCond .lt 10, 3, 20, 0), none, none, some (.iload_n 3, 1, 0, 0), some (.iconst 2, 1, 0, 0), some (.iload_n 1, 1, 0, 0), some (.imul, 1, 0, 0), some (.if_icmp .lt 5, 3, 22, 0), none, none, some (.iconst (-1), 1, 0, 0), some (.ireturn, 1, 0, 0), some (.aload_n 0, 1, 0, 0), some (.getfield 11, 3, 4, 0), none, none, some (.iload_n 1, 1, 0, 0), some (.iconst 1, 1, 0, 0), some (.isub, 1, 0, 0), some (.aaload, 1, 0, 0), some (.getfield 59, 3, 0, 4), none],
  [none, some (.iload_n 2, 1, 0, 0), some (.aaload, 1, 0, 0), some (.iload_n 3, 1, 0, 0), some (.iaload, 1, 0, 0), some (.ireturn, 1, 0, 0)]]
-- StrandBoxes.about(III)I
def ac_X4_about : am_C := [[some (.aload_n 0, 1, 0, 0), some (.iload_n 1, 1, 0, 0), some (.iload_n 2, 1, 0, 0), some (.invokevirtual 55, 3, 5092, 3), none, none, some (.ifCond .ne 5, 3, 11, 0), none, none, some (.iconst (-1), 1, 0, 0), some (.ireturn, 1, 0, 0), some (.aload_n 0, 1, 0, 0), some (.getfield 11, 3, 4, 0), none, none, some (.iload_n 1, 1, 0, 0), some (.iconst 1, 1, 0, 0), some (.isub, 1, 0, 0), some (.aaload, 1, 0, 0), some (.astore 4, 2, 0, 0), none, some (.iload_n 3, 1, 0, 0), some (.tableswitch 79 0 4 #[34, 49, 56, 63, 71], 34, 0, 0), none, none, none, none, none, none, none, none, none],
  [none, none, none, none, none, none, none, none, none, none, none, none, none, none, none, none, none, none, none, none, none, none, none, none, some (.aload 4, 2, 0, 0), none, some (.iload_n 2, 1, 0, 0), some (.invokevirtual 63, 3, 1008, 2), none, none, some (.ifCond .eq 7, 3, 69, 0), none],
  [none, some (.iconst 1, 1, 0, 0), some (.goto 4, 3, 70, 0), none, none, some (.iconst 0, 1, 0, 0), some (.ireturn, 1, 0, 0), some (.aload 4, 2, 0, 0), none, some (.iload_n 2, 1, 0, 0), some (.invokevirtual 66, 3, 1011, 2), none, none, some (.ireturn, 1, 0, 0), some (.aload 4, 2, 0, 0), none, some (.iload_n 2, 1, 0, 0), some (.invokevirtual 70, 3, 1012, 2), none, none, some (.ireturn, 1, 0, 0), some (.aload 4, 2, 0, 0), none, some (.getfield 73, 3, 0, 5), none, none, some (.iload_n 2, 1, 0, 0), some (.iaload, 1, 0, 0), some (.ireturn, 1, 0, 0), some (.aload 4, 2, 0, 0), none, some (.getfield 77, 3, 0, 6)],
  [none, none, some (.iload_n 2, 1, 0, 0), some (.iaload, 1, 0, 0), some (.ireturn, 1, 0, 0), some (.iconst (-1), 1, 0, 0), some (.ireturn, 1, 0, 0)]]
-- StrandBoxes.stack(III)I
def ac_X4_stack : am_C := [[some (.aload_n 0, 1, 0, 0), some (.iload_n 1, 1, 0, 0), some (.iload_n 2, 1, 0, 0), some (.invokevirtual 55, 3, 5092, 3), none, none, some (.ifCond .eq 12, 3, 18, 0), none, none, some (.aload_n 0, 1, 0, 0), some (.iload_n 1, 1, 0, 0), some (.iload_n 3, 1, 0, 0), some (.invokevirtual 55, 3, 5092, 3), none, none, some (.ifCond .ne 5, 3, 20, 0), none, none, some (.iconst (-1), 1, 0, 0), some (.ireturn, 1, 0, 0), some (.aload_n 0, 1, 0, 0), some (.getfield 11, 3, 4, 0), none, none, some (.iload_n 1, 1, 0, 0), some (.iconst 1, 1, 0, 0), some (.isub, 1, 0, 0), some (.aaload, 1, 0, 0), some (.iload_n 2, 1, 0, 0), some (.iload_n 3, 1, 0, 0), some (.invokevirtual 80, 3, 1028, 3), none],
  [none, some (.ireturn, 1, 0, 0)]]
-- StrandBoxes.box(IJ)I
def ac_X4_box : am_C := [[some (.iload_n 1, 1, 0, 0), some (.invokestatic 43, 3, 89, 1), none, none, some (.ifCond .ne 5, 3, 9, 0), none, none, some (.iconst (-1), 1, 0, 0), some (.ireturn, 1, 0, 0), some (.aload_n 0, 1, 0, 0), some (.getfield 11, 3, 4, 0), none, none, some (.iload_n 1, 1, 0, 0), some (.iconst 1, 1, 0, 0), some (.isub, 1, 0, 0), some (.aaload, 1, 0, 0), some (.lload_n 2, 1, 0, 0), some (.invokevirtual 84, 3, 1021, 2), none, none, some (.ireturn, 1, 0, 0)]]
-- StrandBoxes.plain(II)I
def ac_X4_plain : am_C := [[some (.iload_n 1, 1, 0, 0), some (.invokestatic 43, 3, 89, 1), none, none, some (.ifCond .ne 5, 3, 9, 0), none, none, some (.iconst (-1), 1, 0, 0), some (.ireturn, 1, 0, 0), some (.aload_n 0, 1, 0, 0), some (.getfield 11, 3, 4, 0), none, none, some (.iload_n 1, 1, 0, 0), some (.iconst 1, 1, 0, 0), some (.isub, 1, 0, 0), some (.aaload, 1, 0, 0), some (.iload_n 2, 1, 0, 0), some (.invokevirtual 88, 3, 1019, 2), none, none, some (.ireturn, 1, 0, 0)]]
-- StrandBoxes.word(III)I
def ac_X4_word : am_C := [[some (.aload_n 0, 1, 0, 0), some (.iload_n 1, 1, 0, 0), some (.iload_n 2, 1, 0, 0), some (.invokevirtual 55, 3, 5092, 3), none, none, some (.ifCond .eq 7, 3, 13, 0), none, none, some (.iload_n 3, 1, 0, 0), some (.ifCond .ge 5, 3, 15, 0), none, none, some (.iconst (-1), 1, 0, 0), some (.ireturn, 1, 0, 0), some (.aload_n 0, 1, 0, 0), some (.getfield 11, 3, 4, 0), none, none, some (.iload_n 1, 1, 0, 0), some (.iconst 1, 1, 0, 0), some (.isub, 1, 0, 0), some (.aaload, 1, 0, 0), some (.iload_n 2, 1, 0, 0), some (.iload_n 3, 1, 0, 0), some (.invokevirtual 91, 3, 1027, 3), none, none, some (.ireturn, 1, 0, 0)]]
-- StrandBoxes.clear(II)I
def ac_X4_clear : am_C := [[some (.iload_n 1, 1, 0, 0), some (.invokestatic 94, 3, 90, 1), none, none, some (.ifCond .eq 10, 3, 14, 0), none, none, some (.iload_n 2, 1, 0, 0), some (.invokestatic 43, 3, 89, 1), none, none, some (.ifCond .ne 5, 3, 16, 0), none, none, some (.iconst (-1), 1, 0, 0), some (.ireturn, 1, 0, 0), some (.aload_n 0, 1, 0, 0), some (.getfield 23, 3, 4, 2), none, none, some (.iload_n 1, 1, 0, 0), some (.aaload, 1, 0, 0), some (.getfield 97, 3, 3, 1), none, none, some (.istore_n 3, 1, 0, 0), some (.aload_n 0, 1, 0, 0), some (.getfield 23, 3, 4, 2), none, none, some (.iload_n 1, 1, 0, 0), some (.aaload, 1, 0, 0)],
  [some (.iload_n 2, 1, 0, 0), some (.invokevirtual 100, 3, 4054, 2), none, none, some (.iload_n 3, 1, 0, 0), some (.ireturn, 1, 0, 0)]]
-- StrandBoxes.add(IIIJ)I
def ac_X4_add : am_C := [[some (.iload_n 1, 1, 0, 0), some (.invokestatic 94, 3, 90, 1), none, none, some (.ifCond .eq 30, 3, 34, 0), none, none, some (.aload_n 0, 1, 0, 0), some (.aload_n 0, 1, 0, 0), some (.getfield 23, 3, 4, 2), none, none, some (.iload_n 1, 1, 0, 0), some (.aaload, 1, 0, 0), some (.getfield 103, 3, 3, 0), none, none, some (.iload_n 2, 1, 0, 0), some (.invokevirtual 55, 3, 5092, 3), none, none, some (.ifCond .eq 13, 3, 34, 0), none, none, some (.iload_n 3, 1, 0, 0), some (.ifCond .lt 9, 3, 34, 0), none, none, some (.iload_n 3, 1, 0, 0), some (.bipush 20, 2, 0, 0), none, some (.if_icmp .le 5, 3, 36, 0)],
  [none, none, some (.iconst (-1), 1, 0, 0), some (.ireturn, 1, 0, 0), some (.lload 4, 2, 0, 0), none, some (.ldc2_w 106, 3, 1, 999999), none, none, some (.lcmp, 1, 0, 0), some (.ifCond .lt 12, 3, 54, 0), none, none, some (.lload 4, 2, 0, 0), none, some (.ldc2_w 108, 3, 0, 1000000), none, none, some (.lcmp, 1, 0, 0), some (.ifCond .le 5, 3, 56, 0), none, none, some (.iconst (-1), 1, 0, 0), some (.ireturn, 1, 0, 0), some (.aload_n 0, 1, 0, 0), some (.getfield 23, 3, 4, 2), none, none, some (.iload_n 1, 1, 0, 0), some (.aaload, 1, 0, 0), some (.iload_n 2, 1, 0, 0), some (.iload_n 3, 1, 0, 0)],
  [some (.lload 4, 2, 0, 0), none, some (.invokevirtual 110, 3, 4059, 4), none, none, some (.ifCond .eq 15, 3, 84, 0), none, none, some (.aload_n 0, 1, 0, 0), some (.getfield 23, 3, 4, 2), none, none, some (.iload_n 1, 1, 0, 0), some (.aaload, 1, 0, 0), some (.getfield 97, 3, 3, 1), none, none, some (.goto 5, 3, 86, 0), none, none, some (.bipush (-5), 2, 0, 0), none, some (.ireturn, 1, 0, 0)]]
-- StrandBoxes.work(IIII)I
def ac_X4_work : am_C := [[some (.iload_n 1, 1, 0, 0), some (.invokestatic 94, 3, 90, 1), none, none, some (.ifCond .eq 27, 3, 31, 0), none, none, some (.iload_n 2, 1, 0, 0), some (.ifCond .lt 23, 3, 31, 0), none, none, some (.iload_n 2, 1, 0, 0), some (.iconst 2, 1, 0, 0), some (.if_icmp .gt 18, 3, 31, 0), none, none, some (.iload_n 3, 1, 0, 0), some (.invokestatic 94, 3, 90, 1), none, none, some (.ifCond .eq 11, 3, 31, 0), none, none, some (.iload 4, 2, 0, 0), none, some (.invokestatic 94, 3, 90, 1), none, none, some (.ifCond .ne 5, 3, 33, 0), none, none, some (.iconst (-1), 1, 0, 0)],
  [some (.ireturn, 1, 0, 0), some (.aload_n 0, 1, 0, 0), some (.getfield 23, 3, 4, 2), none, none, some (.iload_n 3, 1, 0, 0), some (.aaload, 1, 0, 0), some (.getfield 103, 3, 3, 0), none, none, some (.aload_n 0, 1, 0, 0), some (.getfield 23, 3, 4, 2), none, none, some (.iload 4, 2, 0, 0), none, some (.aaload, 1, 0, 0), some (.getfield 103, 3, 3, 0), none, none, some (.if_icmp .eq 6, 3, 58, 0), none, none, some (.bipush (-2), 2, 0, 0), none, some (.ireturn, 1, 0, 0), some (.aload_n 0, 1, 0, 0), some (.iload_n 2, 1, 0, 0), some (.aload_n 0, 1, 0, 0), some (.getfield 23, 3, 4, 2), none, none],
  [some (.iload_n 3, 1, 0, 0), some (.aaload, 1, 0, 0), some (.aload_n 0, 1, 0, 0), some (.getfield 23, 3, 4, 2), none, none, some (.iload 4, 2, 0, 0), none, some (.aaload, 1, 0, 0), some (.invokevirtual 114, 3, 5094, 4), none, none, some (.ifCond .ne 6, 3, 82, 0), none, none, some (.bipush (-5), 2, 0, 0), none, some (.ireturn, 1, 0, 0), some (.aload_n 0, 1, 0, 0), some (.getfield 23, 3, 4, 2), none, none, some (.iload_n 1, 1, 0, 0), some (.aaload, 1, 0, 0), some (.aload_n 0, 1, 0, 0), some (.getfield 28, 3, 4, 3), none, none, some (.invokevirtual 118, 3, 4055, 2), none, none, some (.aload_n 0, 1, 0, 0)],
  [some (.getfield 28, 3, 4, 3), none, none, some (.getfield 97, 3, 3, 1), none, none, some (.ireturn, 1, 0, 0)]]
-- StrandBoxes.sum(II)I
def ac_X4_sum : am_C := [[some (.iload_n 1, 1, 0, 0), some (.invokestatic 94, 3, 90, 1), none, none, some (.ifCond .eq 12, 3, 16, 0), none, none, some (.iload_n 2, 1, 0, 0), some (.ifCond .lt 8, 3, 16, 0), none, none, some (.iload_n 2, 1, 0, 0), some (.iconst 1, 1, 0, 0), some (.if_icmp .le 5, 3, 18, 0), none, none, some (.iconst (-1), 1, 0, 0), some (.ireturn, 1, 0, 0), some (.iload_n 2, 1, 0, 0), some (.ifCond .ne 15, 3, 34, 0), none, none, some (.aload_n 0, 1, 0, 0), some (.getfield 23, 3, 4, 2), none, none, some (.iload_n 1, 1, 0, 0), some (.aaload, 1, 0, 0), some (.getfield 103, 3, 3, 0), none, none, some (.goto 12, 3, 43, 0)],
  [none, none, some (.aload_n 0, 1, 0, 0), some (.getfield 23, 3, 4, 2), none, none, some (.iload_n 1, 1, 0, 0), some (.aaload, 1, 0, 0), some (.getfield 97, 3, 3, 1), none, none, some (.ireturn, 1, 0, 0)]]
-- StrandBoxes.term(III)J
def ac_X4_term : am_C := [[some (.iload_n 1, 1, 0, 0), some (.invokestatic 94, 3, 90, 1), none, none, some (.ifCond .eq 16, 3, 20, 0), none, none, some (.iload_n 2, 1, 0, 0), some (.ifCond .lt 12, 3, 20, 0), none, none, some (.iload_n 3, 1, 0, 0), some (.ifCond .lt 8, 3, 20, 0), none, none, some (.iload_n 3, 1, 0, 0), some (.iconst 2, 1, 0, 0), some (.if_icmp .le 7, 3, 24, 0), none, none, some (.ldc2_w 122, 3, 1, 1000000000000000), none, none, some (.lreturn, 1, 2, 0), some (.aload_n 0, 1, 0, 0), some (.getfield 23, 3, 4, 2), none, none, some (.iload_n 1, 1, 0, 0), some (.aaload, 1, 0, 0), some (.astore 4, 2, 0, 0), none],
  [some (.iload_n 2, 1, 0, 0), some (.aload 4, 2, 0, 0), none, some (.getfield 97, 3, 3, 1), none, none, some (.if_icmp .lt 7, 3, 45, 0), none, none, some (.ldc2_w 124, 3, 1, 1000000000000003), none, none, some (.lreturn, 1, 2, 0), some (.iload_n 3, 1, 0, 0), some (.iconst 2, 1, 0, 0), some (.if_icmp .ne 11, 3, 58, 0), none, none, some (.aload 4, 2, 0, 0), none, some (.getfield 126, 3, 3, 4), none, none, some (.iload_n 2, 1, 0, 0), some (.laload, 1, 0, 0), some (.lreturn, 1, 2, 0), some (.iload_n 3, 1, 0, 0), some (.ifCond .ne 14, 3, 73, 0), none, none, some (.aload 4, 2, 0, 0), none],
  [some (.getfield 130, 3, 3, 2), none, none, some (.iload_n 2, 1, 0, 0), some (.iaload, 1, 0, 0), some (.i2l, 1, 0, 0), some (.goto 11, 3, 81, 0), none, none, some (.aload 4, 2, 0, 0), none, some (.getfield 133, 3, 3, 3), none, none, some (.iload_n 2, 1, 0, 0), some (.iaload, 1, 0, 0), some (.i2l, 1, 0, 0), some (.lreturn, 1, 2, 0)]]
-- StrandBoxes.same(II)I
def ac_X4_same : am_C := [[some (.iload_n 1, 1, 0, 0), some (.invokestatic 94, 3, 90, 1), none, none, some (.ifCond .eq 10, 3, 14, 0), none, none, some (.iload_n 2, 1, 0, 0), some (.invokestatic 94, 3, 90, 1), none, none, some (.ifCond .ne 5, 3, 16, 0), none, none, some (.iconst (-1), 1, 0, 0), some (.ireturn, 1, 0, 0), some (.aload_n 0, 1, 0, 0), some (.getfield 23, 3, 4, 2), none, none, some (.iload_n 1, 1, 0, 0), some (.aaload, 1, 0, 0), some (.aload_n 0, 1, 0, 0), some (.getfield 23, 3, 4, 2), none, none, some (.iload_n 2, 1, 0, 0), some (.aaload, 1, 0, 0), some (.invokevirtual 136, 3, 4056, 2), none, none, some (.ifCond .eq 7, 3, 38, 0)],
  [none, none, some (.iconst 1, 1, 0, 0), some (.goto 4, 3, 39, 0), none, none, some (.iconst 0, 1, 0, 0), some (.ireturn, 1, 0, 0)]]
-- StrandBoxes.closed(II)J
def ac_X4_closed : am_C := [[some (.iload_n 1, 1, 0, 0), some (.invokestatic 94, 3, 90, 1), none, none, some (.ifCond .eq 13, 3, 17, 0), none, none, some (.iload_n 2, 1, 0, 0), some (.ifCond .lt 9, 3, 17, 0), none, none, some (.iload_n 2, 1, 0, 0), some (.bipush 24, 2, 0, 0), none, some (.if_icmp .le 5, 3, 19, 0), none, none, some (.lconst 0, 1, 0, 0), some (.lreturn, 1, 2, 0), some (.aload_n 0, 1, 0, 0), some (.getfield 23, 3, 4, 2), none, none, some (.iload_n 1, 1, 0, 0), some (.aaload, 1, 0, 0), some (.astore_n 3, 1, 0, 0), some (.aload_n 0, 1, 0, 0), some (.getfield 11, 3, 4, 0), none, none, some (.aload_n 3, 1, 0, 0), some (.getfield 103, 3, 3, 0)],
  [none, none, some (.iconst 1, 1, 0, 0), some (.isub, 1, 0, 0), some (.aaload, 1, 0, 0), some (.getfield 73, 3, 0, 5), none, none, some (.astore 4, 2, 0, 0), none, some (.lconst 0, 1, 0, 0), some (.lstore 5, 2, 0, 0), none, some (.iconst 0, 1, 0, 0), some (.istore 7, 2, 0, 0), none, some (.iload 7, 2, 0, 0), none, some (.aload_n 3, 1, 0, 0), some (.getfield 97, 3, 3, 1), none, none, some (.if_icmp .ge 43, 3, 97, 0), none, none, some (.aload_n 3, 1, 0, 0), some (.getfield 133, 3, 3, 3), none, none, some (.iload 7, 2, 0, 0), none, some (.iaload, 1, 0, 0)],
  [some (.aload 4, 2, 0, 0), none, some (.aload_n 3, 1, 0, 0), some (.getfield 130, 3, 3, 2), none, none, some (.iload 7, 2, 0, 0), none, some (.iaload, 1, 0, 0), some (.iaload, 1, 0, 0), some (.iadd, 1, 0, 0), some (.iload_n 2, 1, 0, 0), some (.if_icmp .ne 15, 3, 91, 0), none, none, some (.lload 5, 2, 0, 0), none, some (.aload_n 3, 1, 0, 0), some (.getfield 126, 3, 3, 4), none, none, some (.iload 7, 2, 0, 0), none, some (.laload, 1, 0, 0), some (.ladd, 1, 0, 0), some (.lstore 5, 2, 0, 0), none, some (.iinc 7 1, 3, 0, 0), none, none, some (.goto (-46), 3, 48, 0), none],
  [none, some (.lload 5, 2, 0, 0), none, some (.lreturn, 1, 2, 0)]]
-- StrandBoxes.halves(II)I
def ac_X4_halves : am_C := [[some (.iload_n 1, 1, 0, 0), some (.iload_n 2, 1, 0, 0), some (.invokestatic 140, 3, 91, 2), none, none, some (.ifCond .ne 5, 3, 10, 0), none, none, some (.iconst (-1), 1, 0, 0), some (.ireturn, 1, 0, 0), some (.aload_n 0, 1, 0, 0), some (.getfield 17, 3, 4, 1), none, none, some (.iload_n 1, 1, 0, 0), some (.iconst 1, 1, 0, 0), some (.isub, 1, 0, 0), some (.aaload, 1, 0, 0), some (.iload_n 2, 1, 0, 0), some (.invokevirtual 143, 3, 3042, 2), none, none, some (.ireturn, 1, 0, 0)]]
-- StrandBoxes.half(IIII)I
def ac_X4_half : am_C := [[some (.iload_n 1, 1, 0, 0), some (.iload_n 2, 1, 0, 0), some (.invokestatic 140, 3, 91, 2), none, none, some (.ifCond .eq 14, 3, 19, 0), none, none, some (.iload 4, 2, 0, 0), none, some (.ifCond .lt 9, 3, 19, 0), none, none, some (.iload 4, 2, 0, 0), none, some (.iload_n 1, 1, 0, 0), some (.if_icmp .lt 5, 3, 21, 0), none, none, some (.iconst (-1), 1, 0, 0), some (.ireturn, 1, 0, 0), some (.aload_n 0, 1, 0, 0), some (.getfield 17, 3, 4, 1), none, none, some (.iload_n 1, 1, 0, 0), some (.iconst 1, 1, 0, 0), some (.isub, 1, 0, 0), some (.aaload, 1, 0, 0), some (.iload_n 2, 1, 0, 0), some (.iload_n 3, 1, 0, 0), some (.invokevirtual 146, 3, 3043, 3)],
  [none, none, some (.istore 5, 2, 0, 0), none, some (.iload 5, 2, 0, 0), none, some (.ifCond .ge 8, 3, 46, 0), none, none, some (.bipush (-4), 2, 0, 0), none, some (.goto 20, 3, 63, 0), none, none, some (.aload_n 0, 1, 0, 0), some (.getfield 17, 3, 4, 1), none, none, some (.iload_n 1, 1, 0, 0), some (.iconst 1, 1, 0, 0), some (.isub, 1, 0, 0), some (.aaload, 1, 0, 0), some (.getfield 149, 3, 2, 1), none, none, some (.iload 5, 2, 0, 0), none, some (.aaload, 1, 0, 0), some (.iload 4, 2, 0, 0), none, some (.iaload, 1, 0, 0), some (.ireturn, 1, 0, 0)]]
-- StrandBoxes.form(IIII)I
def ac_X4_form : am_C := [[some (.iload_n 1, 1, 0, 0), some (.iload_n 2, 1, 0, 0), some (.invokestatic 140, 3, 91, 2), none, none, some (.ifCond .ne 5, 3, 10, 0), none, none, some (.iconst (-1), 1, 0, 0), some (.ireturn, 1, 0, 0), some (.aload_n 0, 1, 0, 0), some (.getfield 17, 3, 4, 1), none, none, some (.iload_n 1, 1, 0, 0), some (.iconst 1, 1, 0, 0), some (.isub, 1, 0, 0), some (.aaload, 1, 0, 0), some (.iload_n 2, 1, 0, 0), some (.iload_n 3, 1, 0, 0), some (.invokevirtual 146, 3, 3043, 3), none, none, some (.istore 5, 2, 0, 0), none, some (.aload_n 0, 1, 0, 0), some (.getfield 17, 3, 4, 1), none, none, some (.iload_n 1, 1, 0, 0), some (.iconst 1, 1, 0, 0), some (.isub, 1, 0, 0)],
  [some (.aaload, 1, 0, 0), some (.iload_n 2, 1, 0, 0), some (.iload 4, 2, 0, 0), none, some (.invokevirtual 146, 3, 3043, 3), none, none, some (.istore 6, 2, 0, 0), none, some (.iload 5, 2, 0, 0), none, some (.ifCond .lt 8, 3, 51, 0), none, none, some (.iload 6, 2, 0, 0), none, some (.ifCond .ge 5, 3, 53, 0), none, none, some (.iconst (-1), 1, 0, 0), some (.ireturn, 1, 0, 0), some (.aload_n 0, 1, 0, 0), some (.getfield 17, 3, 4, 1), none, none, some (.iload_n 1, 1, 0, 0), some (.iconst 1, 1, 0, 0), some (.isub, 1, 0, 0), some (.aaload, 1, 0, 0), some (.iload 5, 2, 0, 0), none, some (.iload 6, 2, 0, 0)],
  [none, some (.invokevirtual 150, 3, 3044, 3), none, none, some (.ireturn, 1, 0, 0)]]
-- StrandBoxes.free(IIII)I
def ac_X4_free : am_C := [[some (.iload_n 1, 1, 0, 0), some (.iload_n 2, 1, 0, 0), some (.invokestatic 140, 3, 91, 2), none, none, some (.ifCond .eq 25, 3, 30, 0), none, none, some (.iload_n 3, 1, 0, 0), some (.sipush (-1000), 3, 0, 0), none, none, some (.if_icmp .lt 18, 3, 30, 0), none, none, some (.iload_n 3, 1, 0, 0), some (.sipush 1000, 3, 0, 0), none, none, some (.if_icmp .gt 11, 3, 30, 0), none, none, some (.iload 4, 2, 0, 0), none, some (.invokestatic 153, 3, 93, 1), none, none, some (.ifCond .ne 5, 3, 32, 0), none, none, some (.iconst (-1), 1, 0, 0), some (.ireturn, 1, 0, 0)],
  [some (.aload_n 0, 1, 0, 0), some (.getfield 17, 3, 4, 1), none, none, some (.iload_n 1, 1, 0, 0), some (.iconst 1, 1, 0, 0), some (.isub, 1, 0, 0), some (.aaload, 1, 0, 0), some (.iload_n 2, 1, 0, 0), some (.iload_n 3, 1, 0, 0), some (.iload 4, 2, 0, 0), none, some (.invokevirtual 156, 3, 3047, 4), none, none, some (.ireturn, 1, 0, 0)]]
-- StrandBoxes.row(I)I
def ac_X4_row : am_C := [[some (.iload_n 1, 1, 0, 0), some (.iconst 2, 1, 0, 0), some (.if_icmp .lt 8, 3, 10, 0), none, none, some (.iload_n 1, 1, 0, 0), some (.iconst 4, 1, 0, 0), some (.if_icmp .le 5, 3, 12, 0), none, none, some (.iconst (-1), 1, 0, 0), some (.ireturn, 1, 0, 0), some (.aload_n 0, 1, 0, 0), some (.getfield 35, 3, 4, 4), none, none, some (.iload_n 1, 1, 0, 0), some (.invokevirtual 160, 3, 2030, 2), none, none, some (.iconst 0, 1, 0, 0), some (.ireturn, 1, 0, 0)]]
-- StrandBoxes.cross(I)I
def ac_X4_cross : am_C := [[some (.aload_n 0, 1, 0, 0), some (.getfield 35, 3, 4, 4), none, none, some (.iload_n 1, 1, 0, 0), some (.invokevirtual 161, 3, 2031, 2), none, none, some (.ifCond .ne 5, 3, 13, 0), none, none, some (.iconst (-1), 1, 0, 0), some (.ireturn, 1, 0, 0), some (.aload_n 0, 1, 0, 0), some (.getfield 35, 3, 4, 4), none, none, some (.iload_n 1, 1, 0, 0), some (.invokevirtual 164, 3, 2032, 2), none, none, some (.ifCond .eq 13, 3, 34, 0), none, none, some (.aload_n 0, 1, 0, 0), some (.getfield 35, 3, 4, 4), none, none, some (.getfield 167, 3, 1, 1), none, none, some (.goto 5, 3, 36, 0)],
  [none, none, some (.bipush (-3), 2, 0, 0), none, some (.ireturn, 1, 0, 0)]]
-- StrandBoxes.back()I
def ac_X4_back : am_C := [[some (.aload_n 0, 1, 0, 0), some (.getfield 35, 3, 4, 4), none, none, some (.invokevirtual 168, 3, 2033, 1), none, none, some (.ifCond .eq 13, 3, 20, 0), none, none, some (.aload_n 0, 1, 0, 0), some (.getfield 35, 3, 4, 4), none, none, some (.getfield 167, 3, 1, 1), none, none, some (.goto 5, 3, 22, 0), none, none, some (.bipush (-2), 2, 0, 0), none, some (.ireturn, 1, 0, 0)]]
-- StrandBoxes.power(I)I
def ac_X4_power : am_C := [[some (.iload_n 1, 1, 0, 0), some (.bipush (-40), 2, 0, 0), none, some (.if_icmp .lt 9, 3, 12, 0), none, none, some (.iload_n 1, 1, 0, 0), some (.bipush 40, 2, 0, 0), none, some (.if_icmp .le 6, 3, 15, 0), none, none, some (.ldc 172, 2, 1, 999999), none, some (.ireturn, 1, 0, 0), some (.aload_n 0, 1, 0, 0), some (.getfield 35, 3, 4, 4), none, none, some (.iload_n 1, 1, 0, 0), some (.aload_n 0, 1, 0, 0), some (.getfield 11, 3, 4, 0), none, none, some (.aload_n 0, 1, 0, 0), some (.getfield 35, 3, 4, 4), none, none, some (.getfield 173, 3, 1, 0), none, none, some (.iconst 1, 1, 0, 0)],
  [some (.isub, 1, 0, 0), some (.aaload, 1, 0, 0), some (.invokevirtual 174, 3, 2034, 3), none, none, some (.ireturn, 1, 0, 0)]]
-- StrandBoxes.isStrands(I)Z
def ac_X4_isStrands : am_C := [[some (.iload_n 0, 1, 0, 0), some (.iconst 1, 1, 0, 0), some (.if_icmp .lt 12, 3, 14, 0), none, none, some (.iload_n 0, 1, 0, 0), some (.iconst 4, 1, 0, 0), some (.if_icmp .gt 7, 3, 14, 0), none, none, some (.iconst 1, 1, 0, 0), some (.goto 4, 3, 15, 0), none, none, some (.iconst 0, 1, 0, 0), some (.ireturn, 1, 1, 0)]]
-- StrandBoxes.isSum(I)Z
def ac_X4_isSum : am_C := [[some (.iload_n 0, 1, 0, 0), some (.ifCond .lt 13, 3, 14, 0), none, none, some (.iload_n 0, 1, 0, 0), some (.bipush 8, 2, 0, 0), none, some (.if_icmp .ge 7, 3, 14, 0), none, none, some (.iconst 1, 1, 0, 0), some (.goto 4, 3, 15, 0), none, none, some (.iconst 0, 1, 0, 0), some (.ireturn, 1, 1, 0)]]
-- StrandBoxes.isThrough(II)Z
def ac_X4_isThrough : am_C := [[some (.iload_n 0, 1, 0, 0), some (.invokestatic 43, 3, 89, 1), none, none, some (.ifCond .eq 16, 3, 20, 0), none, none, some (.iload_n 1, 1, 0, 0), some (.ifCond .lt 12, 3, 20, 0), none, none, some (.iload_n 1, 1, 0, 0), some (.iload_n 0, 1, 0, 0), some (.if_icmp .gt 7, 3, 20, 0), none, none, some (.iconst 1, 1, 0, 0), some (.goto 4, 3, 21, 0), none, none, some (.iconst 0, 1, 0, 0), some (.ireturn, 1, 1, 0)]]
-- StrandBoxes.isBox(II)Z
def ac_X4_isBox : am_C := [[some (.iload_n 1, 1, 0, 0), some (.invokestatic 43, 3, 89, 1), none, none, some (.ifCond .eq 26, 3, 30, 0), none, none, some (.iload_n 2, 1, 0, 0), some (.ifCond .lt 22, 3, 30, 0), none, none, some (.iload_n 2, 1, 0, 0), some (.aload_n 0, 1, 0, 0), some (.getfield 11, 3, 4, 0), none, none, some (.iload_n 1, 1, 0, 0), some (.iconst 1, 1, 0, 0), some (.isub, 1, 0, 0), some (.aaload, 1, 0, 0), some (.getfield 47, 3, 0, 3), none, none, some (.if_icmp .ge 7, 3, 30, 0), none, none, some (.iconst 1, 1, 0, 0), some (.goto 4, 3, 31, 0), none, none, some (.iconst 0, 1, 0, 0), some (.ireturn, 1, 1, 0)]]
-- StrandBoxes.isPrime(I)Z
def ac_X4_isPrime : am_C := [[some (.iload_n 0, 1, 0, 0), some (.iconst 2, 1, 0, 0), some (.if_icmp .lt 10, 3, 12, 0), none, none, some (.iload_n 0, 1, 0, 0), some (.sipush 997, 3, 0, 0), none, none, some (.if_icmp .le 5, 3, 14, 0), none, none, some (.iconst 0, 1, 0, 0), some (.ireturn, 1, 1, 0), some (.iconst 2, 1, 0, 0), some (.istore_n 1, 1, 0, 0), some (.iload_n 1, 1, 0, 0), some (.iload_n 1, 1, 0, 0), some (.imul, 1, 0, 0), some (.iload_n 0, 1, 0, 0), some (.if_icmp .gt 17, 3, 37, 0), none, none, some (.iload_n 0, 1, 0, 0), some (.iload_n 1, 1, 0, 0), some (.irem, 1, 0, 0), some (.ifCond .ne 5, 3, 31, 0), none, none, some (.iconst 0, 1, 0, 0), some (.ireturn, 1, 1, 0), some (.iinc 1 1, 3, 0, 0)],
  [none, none, some (.goto (-18), 3, 16, 0), none, none, some (.iconst 1, 1, 0, 0), some (.ireturn, 1, 1, 0)]]
-- StrandBoxes.make(ILStrandBoxes$Sum;LStrandBoxes$Sum;)Z
def ac_X4_make : am_C := [[some (.aload_n 0, 1, 0, 0), some (.getfield 28, 3, 4, 3), none, none, some (.aload_n 2, 1, 0, 0), some (.getfield 103, 3, 3, 0), none, none, some (.invokevirtual 100, 3, 4054, 2), none, none, some (.iload_n 1, 1, 0, 0), some (.iconst 2, 1, 0, 0), some (.if_icmp .ne 24, 3, 37, 0), none, none, some (.aload_n 0, 1, 0, 0), some (.getfield 28, 3, 4, 3), none, none, some (.aload_n 2, 1, 0, 0), some (.aload_n 3, 1, 0, 0), some (.aload_n 0, 1, 0, 0), some (.getfield 11, 3, 4, 0), none, none, some (.aload_n 2, 1, 0, 0), some (.getfield 103, 3, 3, 0), none, none, some (.iconst 1, 1, 0, 0), some (.isub, 1, 0, 0)],
  [some (.aaload, 1, 0, 0), some (.invokevirtual 178, 3, 4064, 4), none, none, some (.ireturn, 1, 1, 0), some (.aload_n 0, 1, 0, 0), some (.getfield 28, 3, 4, 3), none, none, some (.aload_n 2, 1, 0, 0), some (.iconst 1, 1, 0, 0), some (.invokevirtual 182, 3, 4063, 3), none, none, some (.ifCond .eq 27, 3, 73, 0), none, none, some (.aload_n 0, 1, 0, 0), some (.getfield 28, 3, 4, 3), none, none, some (.aload_n 3, 1, 0, 0), some (.iload_n 1, 1, 0, 0), some (.ifCond .ne 7, 3, 62, 0), none, none, some (.iconst 1, 1, 0, 0), some (.goto 4, 3, 63, 0), none, none, some (.iconst (-1), 1, 0, 0), some (.invokevirtual 182, 3, 4063, 3)],
  [none, none, some (.ifCond .eq 7, 3, 73, 0), none, none, some (.iconst 1, 1, 0, 0), some (.goto 4, 3, 74, 0), none, none, some (.iconst 0, 1, 0, 0), some (.ireturn, 1, 1, 0)]]
-- StrandBoxesModel.<init>()V
def ac_X5_init : am_C := [[some (.aload_n 0, 1, 0, 0), some (.invokespecial 1, 3, 900, 1), none, none, some (.aload_n 0, 1, 0, 0), some (.sipush 992, 3, 0, 0), none, none, some (.newarray .int, 2, 0, 0), none, some (.putfield 7, 3, 5, 0), none, none, some (.aload_n 0, 1, 0, 0), some (.bipush 124, 2, 0, 0), none, some (.newarray .int, 2, 0, 0), none, some (.putfield 13, 3, 5, 1), none, none, some (.aload_n 0, 1, 0, 0), some (.bipush 124, 2, 0, 0), none, some (.newarray .int, 2, 0, 0), none, some (.putfield 16, 3, 5, 2), none, none, some (.aload_n 0, 1, 0, 0), some (.bipush 124, 2, 0, 0), none],
  [some (.newarray .int, 2, 0, 0), none, some (.putfield 19, 3, 5, 3), none, none, some (.aload_n 0, 1, 0, 0), some (.bipush 8, 2, 0, 0), none, some (.newarray .int, 2, 0, 0), none, some (.putfield 22, 3, 5, 4), none, none, some (.aload_n 0, 1, 0, 0), some (.bipush 8, 2, 0, 0), none, some (.newarray .int, 2, 0, 0), none, some (.putfield 25, 3, 5, 5), none, none, some (.aload_n 0, 1, 0, 0), some (.sipush 320, 3, 0, 0), none, none, some (.newarray .int, 2, 0, 0), none, some (.putfield 28, 3, 5, 6), none, none, some (.aload_n 0, 1, 0, 0), some (.sipush 320, 3, 0, 0)],
  [none, none, some (.newarray .int, 2, 0, 0), none, some (.putfield 31, 3, 5, 7), none, none, some (.aload_n 0, 1, 0, 0), some (.sipush 320, 3, 0, 0), none, none, some (.newarray .long, 2, 2, 0), none, some (.putfield 34, 3, 5, 8), none, none, some (.aload_n 0, 1, 0, 0), some (.iconst 2, 1, 0, 0), some (.putfield 38, 3, 5, 9), none, none, some (.aload_n 0, 1, 0, 0), some (.bipush 8, 2, 0, 0), none, some (.newarray .int, 2, 0, 0), none, some (.putfield 42, 3, 5, 11), none, none, some (.aload_n 0, 1, 0, 0), some (.bipush 8, 2, 0, 0), none],
  [some (.newarray .boolean, 2, 1, 0), none, some (.putfield 45, 3, 5, 12), none, none, some (.aload_n 0, 1, 0, 0), some (.bipush 8, 2, 0, 0), none, some (.newarray .int, 2, 0, 0), none, some (.putfield 49, 3, 5, 13), none, none, some (.aload_n 0, 1, 0, 0), some (.iconst 4, 1, 0, 0), some (.newarray .boolean, 2, 1, 0), none, some (.putfield 52, 3, 5, 14), none, none, some (.aload_n 0, 1, 0, 0), some (.bipush 105, 2, 0, 0), none, some (.newarray .int, 2, 0, 0), none, some (.putfield 55, 3, 5, 16), none, none, some (.aload_n 0, 1, 0, 0), some (.bipush 42, 2, 0, 0), none, some (.newarray .int, 2, 0, 0)],
  [none, some (.putfield 58, 3, 5, 18), none, none, some (.aload_n 0, 1, 0, 0), some (.bipush 42, 2, 0, 0), none, some (.newarray .int, 2, 0, 0), none, some (.putfield 61, 3, 5, 19), none, none, some (.aload_n 0, 1, 0, 0), some (.bipush 42, 2, 0, 0), none, some (.newarray .long, 2, 2, 0), none, some (.putfield 64, 3, 5, 20), none, none, some (.aload_n 0, 1, 0, 0), some (.iconst 4, 1, 0, 0), some (.newarray .int, 2, 0, 0), none, some (.putfield 67, 3, 5, 21), none, none, some (.aload_n 0, 1, 0, 0), some (.iconst 4, 1, 0, 0), some (.newarray .int, 2, 0, 0), none, some (.putfield 70, 3, 5, 22)],
  [none, none, some (.aload_n 0, 1, 0, 0), some (.bipush 36, 2, 0, 0), none, some (.newarray .int, 2, 0, 0), none, some (.putfield 73, 3, 5, 23), none, none, some (.aload_n 0, 1, 0, 0), some (.sipush 201, 3, 0, 0), none, none, some (.newarray .int, 2, 0, 0), none, some (.putfield 76, 3, 5, 24), none, none, some (.aload_n 0, 1, 0, 0), some (.sipush 201, 3, 0, 0), none, none, some (.newarray .int, 2, 0, 0), none, some (.putfield 79, 3, 5, 25), none, none, some (.aload_n 0, 1, 0, 0), some (.sipush 201, 3, 0, 0), none, none],
  [some (.newarray .int, 2, 0, 0), none, some (.putfield 82, 3, 5, 26), none, none, some (.iconst 0, 1, 0, 0), some (.istore_n 1, 1, 0, 0), some (.iload_n 1, 1, 0, 0), some (.bipush 8, 2, 0, 0), none, some (.if_icmp .ge 16, 3, 218, 0), none, none, some (.aload_n 0, 1, 0, 0), some (.getfield 22, 3, 5, 4), none, none, some (.iload_n 1, 1, 0, 0), some (.iconst 2, 1, 0, 0), some (.iastore, 1, 0, 0), some (.iinc 1 1, 3, 0, 0), none, none, some (.goto (-16), 3, 199, 0), none, none, some (.iconst 1, 1, 0, 0), some (.istore_n 1, 1, 0, 0), some (.iload_n 1, 1, 0, 0), some (.iconst 5, 1, 0, 0), some (.if_icmp .ge 31, 3, 253, 0), none],
  [none, some (.iconst 0, 1, 0, 0), some (.istore_n 2, 1, 0, 0), some (.iload_n 2, 1, 0, 0), some (.iload_n 1, 1, 0, 0), some (.invokestatic 85, 3, 98, 1), none, none, some (.if_icmp .ge 15, 3, 247, 0), none, none, some (.aload_n 0, 1, 0, 0), some (.iload_n 1, 1, 0, 0), some (.iload_n 2, 1, 0, 0), some (.invokevirtual 89, 3, 6102, 3), none, none, some (.iinc 2 1, 3, 0, 0), none, none, some (.goto (-17), 3, 227, 0), none, none, some (.iinc 1 1, 3, 0, 0), none, none, some (.goto (-30), 3, 220, 0), none, none, some (.iconst 1, 1, 0, 0), some (.istore_n 1, 1, 0, 0), some (.iload_n 1, 1, 0, 0)],
  [some (.iconst 5, 1, 0, 0), some (.if_icmp .ge 14, 3, 271, 0), none, none, some (.aload_n 0, 1, 0, 0), some (.iload_n 1, 1, 0, 0), some (.invokevirtual 93, 3, 6109, 2), none, none, some (.iinc 1 1, 3, 0, 0), none, none, some (.goto (-13), 3, 255, 0), none, none, some (.return_, 1, 0, 0)]]
-- StrandBoxesModel.in(JJJ)Z
def ac_X5_in : am_C := [[some (.lload_n 0, 1, 0, 0), some (.lload_n 2, 1, 0, 0), some (.lcmp, 1, 0, 0), some (.ifCond .lt 14, 3, 17, 0), none, none, some (.lload_n 0, 1, 0, 0), some (.lload 4, 2, 0, 0), none, some (.lcmp, 1, 0, 0), some (.ifCond .gt 7, 3, 17, 0), none, none, some (.iconst 1, 1, 0, 0), some (.goto 4, 3, 18, 0), none, none, some (.iconst 0, 1, 0, 0), some (.ireturn, 1, 1, 0)]]
-- StrandBoxesModel.isWide(I)Z
def ac_X5_isWide : am_C := [[some (.iload_n 0, 1, 0, 0), some (.i2l, 1, 0, 0), some (.lconst 1, 1, 0, 0), some (.ldc2_w 97, 3, 0, 4), none, none, some (.invokestatic 99, 3, 96, 3), none, none, some (.ireturn, 1, 1, 0)]]
-- StrandBoxesModel.boxes(I)I
def ac_X5_boxes : am_C := [[some (.iload_n 0, 1, 0, 0), some (.iconst 1, 1, 0, 0), some (.if_icmp .ne 7, 3, 9, 0), none, none, some (.iconst 1, 1, 0, 0), some (.goto 24, 3, 30, 0), none, none, some (.iload_n 0, 1, 0, 0), some (.iconst 2, 1, 0, 0), some (.if_icmp .ne 7, 3, 18, 0), none, none, some (.iconst 3, 1, 0, 0), some (.goto 15, 3, 30, 0), none, none, some (.iload_n 0, 1, 0, 0), some (.iconst 3, 1, 0, 0), some (.if_icmp .ne 8, 3, 28, 0), none, none, some (.bipush 15, 2, 0, 0), none, some (.goto 5, 3, 30, 0), none, none, some (.bipush 105, 2, 0, 0), none, some (.ireturn, 1, 0, 0)]]
-- StrandBoxesModel.first(I)I
def ac_X5_first : am_C := [[some (.iload_n 0, 1, 0, 0), some (.iconst 1, 1, 0, 0), some (.if_icmp .ne 7, 3, 9, 0), none, none, some (.iconst 0, 1, 0, 0), some (.goto 23, 3, 29, 0), none, none, some (.iload_n 0, 1, 0, 0), some (.iconst 2, 1, 0, 0), some (.if_icmp .ne 7, 3, 18, 0), none, none, some (.iconst 1, 1, 0, 0), some (.goto 14, 3, 29, 0), none, none, some (.iload_n 0, 1, 0, 0), some (.iconst 3, 1, 0, 0), some (.if_icmp .ne 7, 3, 27, 0), none, none, some (.iconst 4, 1, 0, 0), some (.goto 5, 3, 29, 0), none, none, some (.bipush 19, 2, 0, 0), none, some (.ireturn, 1, 0, 0)]]
-- StrandBoxesModel.isBox(II)Z
def ac_X5_isBox : am_C := [[some (.iload_n 0, 1, 0, 0), some (.invokestatic 103, 3, 97, 1), none, none, some (.ifCond .eq 23, 3, 27, 0), none, none, some (.iload_n 1, 1, 0, 0), some (.i2l, 1, 0, 0), some (.lconst 0, 1, 0, 0), some (.iload_n 0, 1, 0, 0), some (.invokestatic 85, 3, 98, 1), none, none, some (.iconst 1, 1, 0, 0), some (.isub, 1, 0, 0), some (.i2l, 1, 0, 0), some (.invokestatic 99, 3, 96, 3), none, none, some (.ifCond .eq 7, 3, 27, 0), none, none, some (.iconst 1, 1, 0, 0), some (.goto 4, 3, 28, 0), none, none, some (.iconst 0, 1, 0, 0), some (.ireturn, 1, 1, 0)]]
-- StrandBoxesModel.at(II)I
def ac_X5_at : am_C := [[some (.bipush 8, 2, 0, 0), none, some (.iload_n 0, 1, 0, 0), some (.invokestatic 107, 3, 99, 1), none, none, some (.iload_n 1, 1, 0, 0), some (.iadd, 1, 0, 0), some (.imul, 1, 0, 0), some (.ireturn, 1, 0, 0)]]
-- StrandBoxesModel.decode(II)V
def ac_X5_decode : am_C := [[some (.iconst 0, 1, 0, 0), some (.istore_n 3, 1, 0, 0), some (.iload_n 3, 1, 0, 0), some (.bipush 8, 2, 0, 0), none, some (.if_icmp .ge 16, 3, 21, 0), none, none, some (.aload_n 0, 1, 0, 0), some (.getfield 45, 3, 5, 12), none, none, some (.iload_n 3, 1, 0, 0), some (.iconst 0, 1, 0, 0), some (.bastore, 1, 0, 0), some (.iinc 3 1, 3, 0, 0), none, none, some (.goto (-16), 3, 2, 0), none, none, some (.iload_n 2, 1, 0, 0), some (.istore_n 3, 1, 0, 0), some (.iload_n 1, 1, 0, 0), some (.invokestatic 85, 3, 98, 1), none, none, some (.istore 4, 2, 0, 0), none, some (.iconst 2, 1, 0, 0), some (.iload_n 1, 1, 0, 0), some (.imul, 1, 0, 0)],
  [some (.istore 5, 2, 0, 0), none, some (.iload 5, 2, 0, 0), none, some (.ifCond .le 141, 3, 177, 0), none, none, some (.iload 4, 2, 0, 0), none, some (.iload 5, 2, 0, 0), none, some (.iconst 1, 1, 0, 0), some (.isub, 1, 0, 0), some (.idiv, 1, 0, 0), some (.istore 4, 2, 0, 0), none, some (.iload_n 3, 1, 0, 0), some (.iload 4, 2, 0, 0), none, some (.idiv, 1, 0, 0), some (.istore 6, 2, 0, 0), none, some (.iload_n 3, 1, 0, 0), some (.iload 4, 2, 0, 0), none, some (.irem, 1, 0, 0), some (.istore_n 3, 1, 0, 0), some (.iconst 0, 1, 0, 0), some (.istore 7, 2, 0, 0), none, some (.aload_n 0, 1, 0, 0), some (.getfield 45, 3, 5, 12)],
  [none, none, some (.iload 7, 2, 0, 0), none, some (.baload, 1, 0, 0), some (.ifCond .eq 9, 3, 78, 0), none, none, some (.iinc 7 1, 3, 0, 0), none, none, some (.goto (-13), 3, 62, 0), none, none, some (.aload_n 0, 1, 0, 0), some (.getfield 45, 3, 5, 12), none, none, some (.iload 7, 2, 0, 0), none, some (.iconst 1, 1, 0, 0), some (.bastore, 1, 0, 0), some (.iload 7, 2, 0, 0), none, some (.iconst 1, 1, 0, 0), some (.iadd, 1, 0, 0), some (.istore 8, 2, 0, 0), none, some (.aload_n 0, 1, 0, 0), some (.getfield 45, 3, 5, 12), none, none],
  [some (.iload 8, 2, 0, 0), none, some (.baload, 1, 0, 0), some (.ifCond .ne 8, 3, 107, 0), none, none, some (.iload 6, 2, 0, 0), none, some (.ifCond .le 29, 3, 133, 0), none, none, some (.iload 6, 2, 0, 0), none, some (.aload_n 0, 1, 0, 0), some (.getfield 45, 3, 5, 12), none, none, some (.iload 8, 2, 0, 0), none, some (.baload, 1, 0, 0), some (.ifCond .eq 7, 3, 123, 0), none, none, some (.iconst 0, 1, 0, 0), some (.goto 4, 3, 124, 0), none, none, some (.iconst 1, 1, 0, 0), some (.isub, 1, 0, 0), some (.istore 6, 2, 0, 0), none, some (.iinc 8 1, 3, 0, 0)],
  [none, none, some (.goto (-38), 3, 92, 0), none, none, some (.aload_n 0, 1, 0, 0), some (.getfield 45, 3, 5, 12), none, none, some (.iload 8, 2, 0, 0), none, some (.iconst 1, 1, 0, 0), some (.bastore, 1, 0, 0), some (.aload_n 0, 1, 0, 0), some (.getfield 7, 3, 5, 0), none, none, some (.iload_n 1, 1, 0, 0), some (.iload_n 2, 1, 0, 0), some (.invokestatic 110, 3, 101, 2), none, none, some (.iload 7, 2, 0, 0), none, some (.iadd, 1, 0, 0), some (.iload 8, 2, 0, 0), none, some (.iastore, 1, 0, 0), some (.aload_n 0, 1, 0, 0), some (.getfield 7, 3, 5, 0), none, none],
  [some (.iload_n 1, 1, 0, 0), some (.iload_n 2, 1, 0, 0), some (.invokestatic 110, 3, 101, 2), none, none, some (.iload 8, 2, 0, 0), none, some (.iadd, 1, 0, 0), some (.iload 7, 2, 0, 0), none, some (.iastore, 1, 0, 0), some (.iinc 5 (-2), 3, 0, 0), none, none, some (.goto (-140), 3, 34, 0), none, none, some (.return_, 1, 0, 0)]]
-- StrandBoxesModel.numberOf(I)I
def ac_X5_numberOf : am_C := [[some (.iconst 0, 1, 0, 0), some (.istore_n 2, 1, 0, 0), some (.iload_n 2, 1, 0, 0), some (.iload_n 1, 1, 0, 0), some (.invokestatic 85, 3, 98, 1), none, none, some (.if_icmp .ge 67, 3, 74, 0), none, none, some (.iconst 1, 1, 0, 0), some (.istore_n 3, 1, 0, 0), some (.iconst 0, 1, 0, 0), some (.istore 4, 2, 0, 0), none, some (.iload 4, 2, 0, 0), none, some (.iconst 2, 1, 0, 0), some (.iload_n 1, 1, 0, 0), some (.imul, 1, 0, 0), some (.if_icmp .ge 42, 3, 62, 0), none, none, some (.iload_n 3, 1, 0, 0), some (.ifCond .eq 38, 3, 62, 0), none, none, some (.aload_n 0, 1, 0, 0), some (.getfield 7, 3, 5, 0), none, none, some (.iload_n 1, 1, 0, 0)],
  [some (.iload_n 2, 1, 0, 0), some (.invokestatic 110, 3, 101, 2), none, none, some (.iload 4, 2, 0, 0), none, some (.iadd, 1, 0, 0), some (.iaload, 1, 0, 0), some (.aload_n 0, 1, 0, 0), some (.getfield 49, 3, 5, 13), none, none, some (.iload 4, 2, 0, 0), none, some (.iaload, 1, 0, 0), some (.if_icmp .ne 7, 3, 54, 0), none, none, some (.iconst 1, 1, 0, 0), some (.goto 4, 3, 55, 0), none, none, some (.iconst 0, 1, 0, 0), some (.istore_n 3, 1, 0, 0), some (.iinc 4 1, 3, 0, 0), none, none, some (.goto (-44), 3, 15, 0), none, none, some (.iload_n 3, 1, 0, 0), some (.ifCond .eq 5, 3, 68, 0)],
  [none, none, some (.iload_n 2, 1, 0, 0), some (.ireturn, 1, 0, 0), some (.iinc 2 1, 3, 0, 0), none, none, some (.goto (-69), 3, 2, 0), none, none, some (.bipush (-4), 2, 0, 0), none, some (.ireturn, 1, 0, 0)]]
-- StrandBoxesModel.lead(IIII)I
def ac_X5_lead : am_C := [[some (.iload 4, 2, 0, 0), none, some (.iload_n 1, 1, 0, 0), some (.if_icmp .ge 7, 3, 10, 0), none, none, some (.iconst 1, 1, 0, 0), some (.goto 4, 3, 11, 0), none, none, some (.iconst 0, 1, 0, 0), some (.istore 5, 2, 0, 0), none, some (.iload 4, 2, 0, 0), none, some (.istore 6, 2, 0, 0), none, some (.aload_n 0, 1, 0, 0), some (.getfield 7, 3, 5, 0), none, none, some (.iload 5, 2, 0, 0), none, some (.ifCond .eq 7, 3, 30, 0), none, none, some (.iload_n 2, 1, 0, 0), some (.goto 4, 3, 31, 0), none, none, some (.iload_n 3, 1, 0, 0), some (.iload 6, 2, 0, 0)],
  [none, some (.iadd, 1, 0, 0), some (.iaload, 1, 0, 0), some (.istore 6, 2, 0, 0), none, some (.iload 5, 2, 0, 0), none, some (.ifCond .eq 17, 3, 56, 0), none, none, some (.iload 6, 2, 0, 0), none, some (.iload_n 1, 1, 0, 0), some (.if_icmp .ge 7, 3, 52, 0), none, none, some (.iconst 1, 1, 0, 0), some (.goto 18, 3, 67, 0), none, none, some (.iconst 0, 1, 0, 0), some (.goto 14, 3, 67, 0), none, none, some (.iload 6, 2, 0, 0), none, some (.iload_n 1, 1, 0, 0), some (.if_icmp .lt 7, 3, 66, 0), none, none, some (.iconst 1, 1, 0, 0), some (.goto 4, 3, 67, 0)],
  [none, none, some (.iconst 0, 1, 0, 0), some (.istore 7, 2, 0, 0), none, some (.iload 7, 2, 0, 0), none, some (.ifCond .eq 6, 3, 77, 0), none, none, some (.iload 6, 2, 0, 0), none, some (.ireturn, 1, 0, 0), some (.iload 5, 2, 0, 0), none, some (.ifCond .eq 10, 3, 89, 0), none, none, some (.iload 6, 2, 0, 0), none, some (.iload_n 1, 1, 0, 0), some (.isub, 1, 0, 0), some (.goto 5, 3, 91, 0), none, none, some (.iload 6, 2, 0, 0), none, some (.istore 8, 2, 0, 0), none, some (.aload_n 0, 1, 0, 0), some (.getfield 52, 3, 5, 14), none],
  [none, some (.iload 8, 2, 0, 0), none, some (.iconst 1, 1, 0, 0), some (.bastore, 1, 0, 0), some (.iload 5, 2, 0, 0), none, some (.ifCond .eq 8, 3, 111, 0), none, none, some (.iload 8, 2, 0, 0), none, some (.goto 7, 3, 115, 0), none, none, some (.iload_n 1, 1, 0, 0), some (.iload 8, 2, 0, 0), none, some (.iadd, 1, 0, 0), some (.istore 6, 2, 0, 0), none, some (.iload 5, 2, 0, 0), none, some (.ifCond .ne 7, 3, 126, 0), none, none, some (.iconst 1, 1, 0, 0), some (.goto 4, 3, 127, 0), none, none, some (.iconst 0, 1, 0, 0), some (.istore 5, 2, 0, 0)],
  [none, some (.goto (-112), 3, 17, 0)]]
-- StrandBoxesModel.stacked(III)I
def ac_X5_stacked : am_C := [[some (.iload_n 1, 1, 0, 0), some (.iload_n 2, 1, 0, 0), some (.invokestatic 110, 3, 101, 2), none, none, some (.istore 4, 2, 0, 0), none, some (.iload_n 1, 1, 0, 0), some (.iload_n 3, 1, 0, 0), some (.invokestatic 110, 3, 101, 2), none, none, some (.istore 5, 2, 0, 0), none, some (.iconst 0, 1, 0, 0), some (.istore 6, 2, 0, 0), none, some (.iload 6, 2, 0, 0), none, some (.iconst 4, 1, 0, 0), some (.if_icmp .ge 17, 3, 37, 0), none, none, some (.aload_n 0, 1, 0, 0), some (.getfield 52, 3, 5, 14), none, none, some (.iload 6, 2, 0, 0), none, some (.iconst 0, 1, 0, 0), some (.bastore, 1, 0, 0), some (.iinc 6 1, 3, 0, 0)],
  [none, none, some (.goto (-17), 3, 17, 0), none, none, some (.iconst 0, 1, 0, 0), some (.istore 6, 2, 0, 0), none, some (.iload 6, 2, 0, 0), none, some (.iconst 2, 1, 0, 0), some (.iload_n 1, 1, 0, 0), some (.imul, 1, 0, 0), some (.if_icmp .ge 27, 3, 72, 0), none, none, some (.aload_n 0, 1, 0, 0), some (.getfield 49, 3, 5, 13), none, none, some (.iload 6, 2, 0, 0), none, some (.aload_n 0, 1, 0, 0), some (.iload_n 1, 1, 0, 0), some (.iload 4, 2, 0, 0), none, some (.iload 5, 2, 0, 0), none, some (.iload 6, 2, 0, 0), none, some (.invokevirtual 114, 3, 6104, 5), none],
  [none, some (.iastore, 1, 0, 0), some (.iinc 6 1, 3, 0, 0), none, none, some (.goto (-29), 3, 40, 0), none, none, some (.aload_n 0, 1, 0, 0), some (.iconst 0, 1, 0, 0), some (.putfield 118, 3, 5, 15), none, none, some (.iconst 0, 1, 0, 0), some (.istore 6, 2, 0, 0), none, some (.iload 6, 2, 0, 0), none, some (.iload_n 1, 1, 0, 0), some (.if_icmp .ge 102, 3, 185, 0), none, none, some (.aload_n 0, 1, 0, 0), some (.getfield 52, 3, 5, 14), none, none, some (.iload 6, 2, 0, 0), none, some (.baload, 1, 0, 0), some (.ifCond .ne 86, 3, 179, 0), none, none],
  [some (.aload_n 0, 1, 0, 0), some (.dup, 1, 0, 0), some (.getfield 118, 3, 5, 15), none, none, some (.iconst 1, 1, 0, 0), some (.iadd, 1, 0, 0), some (.putfield 118, 3, 5, 15), none, none, some (.iload 6, 2, 0, 0), none, some (.istore 7, 2, 0, 0), none, some (.iconst 1, 1, 0, 0), some (.istore 8, 2, 0, 0), none, some (.iload 8, 2, 0, 0), none, some (.ifCond .eq 64, 3, 179, 0), none, none, some (.aload_n 0, 1, 0, 0), some (.getfield 52, 3, 5, 14), none, none, some (.iload 7, 2, 0, 0), none, some (.iconst 1, 1, 0, 0), some (.bastore, 1, 0, 0), some (.aload_n 0, 1, 0, 0), some (.getfield 7, 3, 5, 0)],
  [none, none, some (.iload 5, 2, 0, 0), none, some (.iload 7, 2, 0, 0), none, some (.iadd, 1, 0, 0), some (.iaload, 1, 0, 0), some (.istore 9, 2, 0, 0), none, some (.aload_n 0, 1, 0, 0), some (.getfield 52, 3, 5, 14), none, none, some (.iload 9, 2, 0, 0), none, some (.iconst 1, 1, 0, 0), some (.bastore, 1, 0, 0), some (.aload_n 0, 1, 0, 0), some (.getfield 7, 3, 5, 0), none, none, some (.iload 4, 2, 0, 0), none, some (.iload_n 1, 1, 0, 0), some (.iadd, 1, 0, 0), some (.iload 9, 2, 0, 0), none, some (.iadd, 1, 0, 0), some (.iaload, 1, 0, 0), some (.iload_n 1, 1, 0, 0), some (.isub, 1, 0, 0)],
  [some (.istore 7, 2, 0, 0), none, some (.iload 7, 2, 0, 0), none, some (.iload 6, 2, 0, 0), none, some (.if_icmp .eq 7, 3, 173, 0), none, none, some (.iconst 1, 1, 0, 0), some (.goto 4, 3, 174, 0), none, none, some (.iconst 0, 1, 0, 0), some (.istore 8, 2, 0, 0), none, some (.goto (-63), 3, 113, 0), none, none, some (.iinc 6 1, 3, 0, 0), none, none, some (.goto (-102), 3, 80, 0), none, none, some (.aload_n 0, 1, 0, 0), some (.iload_n 1, 1, 0, 0), some (.invokevirtual 121, 3, 6103, 2), none, none, some (.ireturn, 1, 0, 0)]]
-- StrandBoxesModel.ringsClosed(II)I
def ac_X5_ringsClosed : am_C := [[some (.iload_n 1, 1, 0, 0), some (.iload_n 2, 1, 0, 0), some (.invokestatic 110, 3, 101, 2), none, none, some (.istore_n 3, 1, 0, 0), some (.iconst 0, 1, 0, 0), some (.istore 4, 2, 0, 0), none, some (.iload 4, 2, 0, 0), none, some (.iconst 4, 1, 0, 0), some (.if_icmp .ge 17, 3, 29, 0), none, none, some (.aload_n 0, 1, 0, 0), some (.getfield 52, 3, 5, 14), none, none, some (.iload 4, 2, 0, 0), none, some (.iconst 0, 1, 0, 0), some (.bastore, 1, 0, 0), some (.iinc 4 1, 3, 0, 0), none, none, some (.goto (-17), 3, 9, 0), none, none, some (.iconst 0, 1, 0, 0), some (.istore 4, 2, 0, 0), none],
  [some (.iconst 0, 1, 0, 0), some (.istore 5, 2, 0, 0), none, some (.iload 5, 2, 0, 0), none, some (.iload_n 1, 1, 0, 0), some (.if_icmp .ge 101, 3, 139, 0), none, none, some (.aload_n 0, 1, 0, 0), some (.getfield 52, 3, 5, 14), none, none, some (.iload 5, 2, 0, 0), none, some (.baload, 1, 0, 0), some (.ifCond .ne 85, 3, 133, 0), none, none, some (.iinc 4 1, 3, 0, 0), none, none, some (.iload 5, 2, 0, 0), none, some (.istore 6, 2, 0, 0), none, some (.iconst 1, 1, 0, 0), some (.istore 7, 2, 0, 0), none, some (.iload 7, 2, 0, 0), none, some (.ifCond .eq 70, 3, 133, 0)],
  [none, none, some (.aload_n 0, 1, 0, 0), some (.getfield 52, 3, 5, 14), none, none, some (.iload 6, 2, 0, 0), none, some (.iload_n 1, 1, 0, 0), some (.irem, 1, 0, 0), some (.iconst 1, 1, 0, 0), some (.bastore, 1, 0, 0), some (.aload_n 0, 1, 0, 0), some (.getfield 7, 3, 5, 0), none, none, some (.iload_n 3, 1, 0, 0), some (.iload 6, 2, 0, 0), none, some (.iadd, 1, 0, 0), some (.iaload, 1, 0, 0), some (.istore 8, 2, 0, 0), none, some (.aload_n 0, 1, 0, 0), some (.getfield 52, 3, 5, 14), none, none, some (.iload 8, 2, 0, 0), none, some (.iload_n 1, 1, 0, 0), some (.irem, 1, 0, 0), some (.iconst 1, 1, 0, 0)],
  [some (.bastore, 1, 0, 0), some (.iload 8, 2, 0, 0), none, some (.iload_n 1, 1, 0, 0), some (.if_icmp .ge 10, 3, 110, 0), none, none, some (.iload 8, 2, 0, 0), none, some (.iload_n 1, 1, 0, 0), some (.iadd, 1, 0, 0), some (.goto 7, 3, 114, 0), none, none, some (.iload 8, 2, 0, 0), none, some (.iload_n 1, 1, 0, 0), some (.isub, 1, 0, 0), some (.istore 6, 2, 0, 0), none, some (.iload 6, 2, 0, 0), none, some (.iload 5, 2, 0, 0), none, some (.if_icmp .eq 7, 3, 127, 0), none, none, some (.iconst 1, 1, 0, 0), some (.goto 4, 3, 128, 0), none, none, some (.iconst 0, 1, 0, 0)],
  [some (.istore 7, 2, 0, 0), none, some (.goto (-69), 3, 61, 0), none, none, some (.iinc 5 1, 3, 0, 0), none, none, some (.goto (-101), 3, 35, 0), none, none, some (.iload 4, 2, 0, 0), none, some (.ireturn, 1, 0, 0)]]
-- StrandBoxesModel.isLetter(II)Z
def ac_X5_isLetter : am_C := [[some (.iload_n 1, 1, 0, 0), some (.i2l, 1, 0, 0), some (.lconst 1, 1, 0, 0), some (.iload_n 0, 1, 0, 0), some (.iconst 1, 1, 0, 0), some (.isub, 1, 0, 0), some (.i2l, 1, 0, 0), some (.invokestatic 99, 3, 96, 3), none, none, some (.ifCond .ne 19, 3, 29, 0), none, none, some (.iload_n 1, 1, 0, 0), some (.i2l, 1, 0, 0), some (.ldc2_w 124, 3, 0, 11), none, none, some (.bipush 9, 2, 0, 0), none, some (.iload_n 0, 1, 0, 0), some (.iadd, 1, 0, 0), some (.i2l, 1, 0, 0), some (.invokestatic 99, 3, 96, 3), none, none, some (.ifCond .eq 7, 3, 33, 0), none, none, some (.iconst 1, 1, 0, 0), some (.goto 4, 3, 34, 0), none],
  [none, some (.iconst 0, 1, 0, 0), some (.ireturn, 1, 1, 0)]]
-- StrandBoxesModel.plainBox(II)I
def ac_X5_plainBox : am_C := [[some (.iconst 0, 1, 0, 0), some (.istore_n 3, 1, 0, 0), some (.iload_n 3, 1, 0, 0), some (.iload_n 1, 1, 0, 0), some (.if_icmp .ge 27, 3, 31, 0), none, none, some (.aload_n 0, 1, 0, 0), some (.getfield 49, 3, 5, 13), none, none, some (.iload_n 3, 1, 0, 0), some (.iload_n 1, 1, 0, 0), some (.iload_n 3, 1, 0, 0), some (.iadd, 1, 0, 0), some (.iastore, 1, 0, 0), some (.aload_n 0, 1, 0, 0), some (.getfield 49, 3, 5, 13), none, none, some (.iload_n 1, 1, 0, 0), some (.iload_n 3, 1, 0, 0), some (.iadd, 1, 0, 0), some (.iload_n 3, 1, 0, 0), some (.iastore, 1, 0, 0), some (.iinc 3 1, 3, 0, 0), none, none, some (.goto (-26), 3, 2, 0), none, none, some (.iload_n 2, 1, 0, 0)],
  [some (.ifCond .le 109, 3, 141, 0), none, none, some (.iload_n 2, 1, 0, 0), some (.bipush 10, 2, 0, 0), none, some (.irem, 1, 0, 0), some (.istore_n 3, 1, 0, 0), some (.iload_n 2, 1, 0, 0), some (.bipush 10, 2, 0, 0), none, some (.if_icmp .ge 7, 3, 50, 0), none, none, some (.iconst 1, 1, 0, 0), some (.goto 4, 3, 51, 0), none, none, some (.iconst 0, 1, 0, 0), some (.istore 4, 2, 0, 0), none, some (.aload_n 0, 1, 0, 0), some (.getfield 49, 3, 5, 13), none, none, some (.iload_n 3, 1, 0, 0), some (.iconst 1, 1, 0, 0), some (.isub, 1, 0, 0), some (.iload 4, 2, 0, 0), none, some (.ifCond .eq 7, 3, 69, 0), none],
  [none, some (.iload_n 3, 1, 0, 0), some (.goto 6, 3, 72, 0), none, none, some (.iload_n 1, 1, 0, 0), some (.iload_n 3, 1, 0, 0), some (.iadd, 1, 0, 0), some (.iastore, 1, 0, 0), some (.aload_n 0, 1, 0, 0), some (.getfield 49, 3, 5, 13), none, none, some (.iload_n 3, 1, 0, 0), some (.iload 4, 2, 0, 0), none, some (.ifCond .eq 9, 3, 89, 0), none, none, some (.iload_n 3, 1, 0, 0), some (.iconst 1, 1, 0, 0), some (.isub, 1, 0, 0), some (.goto 8, 3, 94, 0), none, none, some (.iload_n 1, 1, 0, 0), some (.iload_n 3, 1, 0, 0), some (.iadd, 1, 0, 0), some (.iconst 1, 1, 0, 0), some (.isub, 1, 0, 0), some (.iastore, 1, 0, 0), some (.aload_n 0, 1, 0, 0)],
  [some (.getfield 49, 3, 5, 13), none, none, some (.iload_n 1, 1, 0, 0), some (.iload_n 3, 1, 0, 0), some (.iadd, 1, 0, 0), some (.iconst 1, 1, 0, 0), some (.isub, 1, 0, 0), some (.iload 4, 2, 0, 0), none, some (.ifCond .eq 9, 3, 115, 0), none, none, some (.iload_n 1, 1, 0, 0), some (.iload_n 3, 1, 0, 0), some (.iadd, 1, 0, 0), some (.goto 4, 3, 116, 0), none, none, some (.iload_n 3, 1, 0, 0), some (.iastore, 1, 0, 0), some (.aload_n 0, 1, 0, 0), some (.getfield 49, 3, 5, 13), none, none, some (.iload_n 1, 1, 0, 0), some (.iload_n 3, 1, 0, 0), some (.iadd, 1, 0, 0), some (.iload 4, 2, 0, 0), none, some (.ifCond .eq 11, 3, 137, 0), none],
  [none, some (.iload_n 1, 1, 0, 0), some (.iload_n 3, 1, 0, 0), some (.iadd, 1, 0, 0), some (.iconst 1, 1, 0, 0), some (.isub, 1, 0, 0), some (.goto 6, 3, 140, 0), none, none, some (.iload_n 3, 1, 0, 0), some (.iconst 1, 1, 0, 0), some (.isub, 1, 0, 0), some (.iastore, 1, 0, 0), some (.aload_n 0, 1, 0, 0), some (.iload_n 1, 1, 0, 0), some (.invokevirtual 121, 3, 6103, 2), none, none, some (.ireturn, 1, 0, 0)]]
-- StrandBoxesModel.findWords(I)V
def ac_X5_findWords : am_C := [[some (.iload_n 1, 1, 0, 0), some (.invokestatic 107, 3, 99, 1), none, none, some (.istore_n 2, 1, 0, 0), some (.iconst 0, 1, 0, 0), some (.istore_n 3, 1, 0, 0), some (.iload_n 3, 1, 0, 0), some (.iload_n 1, 1, 0, 0), some (.invokestatic 85, 3, 98, 1), none, none, some (.if_icmp .ge 19, 3, 31, 0), none, none, some (.aload_n 0, 1, 0, 0), some (.getfield 19, 3, 5, 3), none, none, some (.iload_n 2, 1, 0, 0), some (.iload_n 3, 1, 0, 0), some (.iadd, 1, 0, 0), some (.bipush (-4), 2, 0, 0), none, some (.iastore, 1, 0, 0), some (.iinc 3 1, 3, 0, 0), none, none, some (.goto (-21), 3, 7, 0), none, none, some (.aload_n 0, 1, 0, 0)],
  [some (.iload_n 1, 1, 0, 0), some (.iconst 0, 1, 0, 0), some (.invokevirtual 126, 3, 6108, 3), none, none, some (.istore_n 3, 1, 0, 0), some (.aload_n 0, 1, 0, 0), some (.getfield 19, 3, 5, 3), none, none, some (.iload_n 2, 1, 0, 0), some (.iload_n 3, 1, 0, 0), some (.iadd, 1, 0, 0), some (.iconst 0, 1, 0, 0), some (.iastore, 1, 0, 0), some (.aload_n 0, 1, 0, 0), some (.getfield 55, 3, 5, 16), none, none, some (.iconst 0, 1, 0, 0), some (.iload_n 3, 1, 0, 0), some (.iastore, 1, 0, 0), some (.iconst 1, 1, 0, 0), some (.istore 4, 2, 0, 0), none, some (.iconst 0, 1, 0, 0), some (.istore 5, 2, 0, 0), none, some (.iload 5, 2, 0, 0), none, some (.iload 4, 2, 0, 0), none],
  [some (.if_icmp .ge 140, 3, 204, 0), none, none, some (.aload_n 0, 1, 0, 0), some (.getfield 55, 3, 5, 16), none, none, some (.iload 5, 2, 0, 0), none, some (.iaload, 1, 0, 0), some (.istore 6, 2, 0, 0), none, some (.iconst 1, 1, 0, 0), some (.istore 7, 2, 0, 0), none, some (.iload 7, 2, 0, 0), none, some (.bipush 10, 2, 0, 0), none, some (.iload_n 1, 1, 0, 0), some (.iadd, 1, 0, 0), some (.if_icmp .ge 113, 3, 198, 0), none, none, some (.iload_n 1, 1, 0, 0), some (.iload 7, 2, 0, 0), none, some (.invokestatic 129, 3, 107, 2), none, none, some (.ifCond .eq 98, 3, 192, 0), none],
  [none, some (.aload_n 0, 1, 0, 0), some (.iload_n 1, 1, 0, 0), some (.iload 7, 2, 0, 0), none, some (.invokevirtual 126, 3, 6108, 3), none, none, some (.istore 8, 2, 0, 0), none, some (.aload_n 0, 1, 0, 0), some (.iload_n 1, 1, 0, 0), some (.iload 6, 2, 0, 0), none, some (.iload 8, 2, 0, 0), none, some (.invokevirtual 133, 3, 6105, 4), none, none, some (.istore 9, 2, 0, 0), none, some (.aload_n 0, 1, 0, 0), some (.getfield 118, 3, 5, 15), none, none, some (.ifCond .ne 71, 3, 192, 0), none, none, some (.aload_n 0, 1, 0, 0), some (.getfield 19, 3, 5, 3), none, none],
  [some (.iload_n 2, 1, 0, 0), some (.iload 9, 2, 0, 0), none, some (.iadd, 1, 0, 0), some (.iaload, 1, 0, 0), some (.bipush (-4), 2, 0, 0), none, some (.if_icmp .ne 57, 3, 192, 0), none, none, some (.aload_n 0, 1, 0, 0), some (.getfield 19, 3, 5, 3), none, none, some (.iload_n 2, 1, 0, 0), some (.iload 9, 2, 0, 0), none, some (.iadd, 1, 0, 0), some (.aload_n 0, 1, 0, 0), some (.getfield 19, 3, 5, 3), none, none, some (.iload_n 2, 1, 0, 0), some (.iload 6, 2, 0, 0), none, some (.iadd, 1, 0, 0), some (.iaload, 1, 0, 0), some (.iconst 1, 1, 0, 0), some (.iadd, 1, 0, 0), some (.iastore, 1, 0, 0), some (.aload_n 0, 1, 0, 0), some (.getfield 13, 3, 5, 1)],
  [none, none, some (.iload_n 2, 1, 0, 0), some (.iload 9, 2, 0, 0), none, some (.iadd, 1, 0, 0), some (.iload 7, 2, 0, 0), none, some (.iastore, 1, 0, 0), some (.aload_n 0, 1, 0, 0), some (.getfield 16, 3, 5, 2), none, none, some (.iload_n 2, 1, 0, 0), some (.iload 9, 2, 0, 0), none, some (.iadd, 1, 0, 0), some (.iload 6, 2, 0, 0), none, some (.iastore, 1, 0, 0), some (.aload_n 0, 1, 0, 0), some (.getfield 55, 3, 5, 16), none, none, some (.iload 4, 2, 0, 0), none, some (.iload 9, 2, 0, 0), none, some (.iastore, 1, 0, 0), some (.iinc 4 1, 3, 0, 0), none, none],
  [some (.iinc 7 1, 3, 0, 0), none, none, some (.goto (-116), 3, 79, 0), none, none, some (.iinc 5 1, 3, 0, 0), none, none, some (.goto (-141), 3, 60, 0), none, none, some (.return_, 1, 0, 0)]]
-- StrandBoxesModel.isPlane(II)Z
def ac_X5_isPlane : am_C := [[some (.iload_n 1, 1, 0, 0), some (.iload_n 2, 1, 0, 0), some (.invokestatic 110, 3, 101, 2), none, none, some (.istore_n 3, 1, 0, 0), some (.iconst 1, 1, 0, 0), some (.istore 4, 2, 0, 0), none, some (.iconst 0, 1, 0, 0), some (.istore 5, 2, 0, 0), none, some (.iload 5, 2, 0, 0), none, some (.iconst 2, 1, 0, 0), some (.iload_n 1, 1, 0, 0), some (.imul, 1, 0, 0), some (.if_icmp .ge 105, 3, 122, 0), none, none, some (.iconst 0, 1, 0, 0), some (.istore 6, 2, 0, 0), none, some (.iload 6, 2, 0, 0), none, some (.iconst 2, 1, 0, 0), some (.iload_n 1, 1, 0, 0), some (.imul, 1, 0, 0), some (.if_icmp .ge 88, 3, 116, 0), none, none, some (.iload_n 1, 1, 0, 0)],
  [some (.iload 5, 2, 0, 0), none, some (.invokestatic 137, 3, 111, 2), none, none, some (.istore 7, 2, 0, 0), none, some (.iload_n 1, 1, 0, 0), some (.aload_n 0, 1, 0, 0), some (.getfield 7, 3, 5, 0), none, none, some (.iload_n 3, 1, 0, 0), some (.iload 5, 2, 0, 0), none, some (.iadd, 1, 0, 0), some (.iaload, 1, 0, 0), some (.invokestatic 137, 3, 111, 2), none, none, some (.istore 8, 2, 0, 0), none, some (.iload_n 1, 1, 0, 0), some (.iload 6, 2, 0, 0), none, some (.invokestatic 137, 3, 111, 2), none, none, some (.istore 9, 2, 0, 0), none, some (.iload_n 1, 1, 0, 0), some (.aload_n 0, 1, 0, 0)],
  [some (.getfield 7, 3, 5, 0), none, none, some (.iload_n 3, 1, 0, 0), some (.iload 6, 2, 0, 0), none, some (.iadd, 1, 0, 0), some (.iaload, 1, 0, 0), some (.invokestatic 137, 3, 111, 2), none, none, some (.istore 10, 2, 0, 0), none, some (.iload 4, 2, 0, 0), none, some (.ifCond .eq 28, 3, 107, 0), none, none, some (.iload 7, 2, 0, 0), none, some (.iload 9, 2, 0, 0), none, some (.if_icmp .ge 17, 3, 103, 0), none, none, some (.iload 9, 2, 0, 0), none, some (.iload 8, 2, 0, 0), none, some (.if_icmp .ge 10, 3, 103, 0), none, none],
  [some (.iload 8, 2, 0, 0), none, some (.iload 10, 2, 0, 0), none, some (.if_icmp .lt 7, 3, 107, 0), none, none, some (.iconst 1, 1, 0, 0), some (.goto 4, 3, 108, 0), none, none, some (.iconst 0, 1, 0, 0), some (.istore 4, 2, 0, 0), none, some (.iinc 6 1, 3, 0, 0), none, none, some (.goto (-90), 3, 23, 0), none, none, some (.iinc 5 1, 3, 0, 0), none, none, some (.goto (-107), 3, 12, 0), none, none, some (.iload 4, 2, 0, 0), none, some (.ireturn, 1, 1, 0)]]
-- StrandBoxesModel.round(II)I
def ac_X5_round : am_C := [[some (.iload_n 1, 1, 0, 0), some (.iload_n 0, 1, 0, 0), some (.if_icmp .ge 7, 3, 9, 0), none, none, some (.iload_n 1, 1, 0, 0), some (.goto 10, 3, 16, 0), none, none, some (.iconst 3, 1, 0, 0), some (.iload_n 0, 1, 0, 0), some (.imul, 1, 0, 0), some (.iconst 1, 1, 0, 0), some (.isub, 1, 0, 0), some (.iload_n 1, 1, 0, 0), some (.isub, 1, 0, 0), some (.ireturn, 1, 0, 0)]]
-- StrandBoxesModel.many(II)I
def ac_X5_many : am_C := [[some (.iload_n 1, 1, 0, 0), some (.invokestatic 103, 3, 97, 1), none, none, some (.ifCond .eq 13, 3, 17, 0), none, none, some (.iload_n 2, 1, 0, 0), some (.i2l, 1, 0, 0), some (.lconst 0, 1, 0, 0), some (.lconst 1, 1, 0, 0), some (.invokestatic 99, 3, 96, 3), none, none, some (.ifCond .ne 5, 3, 19, 0), none, none, some (.iconst (-1), 1, 0, 0), some (.ireturn, 1, 0, 0), some (.iconst 0, 1, 0, 0), some (.istore_n 3, 1, 0, 0), some (.iconst 0, 1, 0, 0), some (.istore 4, 2, 0, 0), none, some (.iload 4, 2, 0, 0), none, some (.iload_n 1, 1, 0, 0), some (.invokestatic 85, 3, 98, 1), none, none, some (.if_icmp .ge 31, 3, 61, 0), none],
  [none, some (.iload_n 3, 1, 0, 0), some (.iload_n 2, 1, 0, 0), some (.ifCond .eq 13, 3, 48, 0), none, none, some (.aload_n 0, 1, 0, 0), some (.iload_n 1, 1, 0, 0), some (.iload 4, 2, 0, 0), none, some (.invokevirtual 140, 3, 6110, 3), none, none, some (.ifCond .eq 7, 3, 52, 0), none, none, some (.iconst 1, 1, 0, 0), some (.goto 4, 3, 53, 0), none, none, some (.iconst 0, 1, 0, 0), some (.iadd, 1, 0, 0), some (.istore_n 3, 1, 0, 0), some (.iinc 4 1, 3, 0, 0), none, none, some (.goto (-34), 3, 24, 0), none, none, some (.iload_n 3, 1, 0, 0), some (.ireturn, 1, 0, 0)]]
-- StrandBoxesModel.partner(III)I
def ac_X5_partner : am_C := [[some (.iload_n 1, 1, 0, 0), some (.iload_n 2, 1, 0, 0), some (.invokestatic 143, 3, 100, 2), none, none, some (.ifCond .eq 33, 3, 38, 0), none, none, some (.iload_n 3, 1, 0, 0), some (.i2l, 1, 0, 0), some (.lconst 0, 1, 0, 0), some (.iconst 2, 1, 0, 0), some (.iload_n 1, 1, 0, 0), some (.imul, 1, 0, 0), some (.iconst 1, 1, 0, 0), some (.isub, 1, 0, 0), some (.i2l, 1, 0, 0), some (.invokestatic 99, 3, 96, 3), none, none, some (.ifCond .eq 18, 3, 38, 0), none, none, some (.aload_n 0, 1, 0, 0), some (.getfield 7, 3, 5, 0), none, none, some (.iload_n 1, 1, 0, 0), some (.iload_n 2, 1, 0, 0), some (.invokestatic 110, 3, 101, 2), none, none],
  [some (.iload_n 3, 1, 0, 0), some (.iadd, 1, 0, 0), some (.iaload, 1, 0, 0), some (.goto 4, 3, 39, 0), none, none, some (.iconst (-1), 1, 0, 0), some (.ireturn, 1, 0, 0)]]
-- StrandBoxesModel.through(II)I
def ac_X5_through : am_C := [[some (.iconst 0, 1, 0, 0), some (.istore_n 3, 1, 0, 0), some (.iconst 0, 1, 0, 0), some (.istore 4, 2, 0, 0), none, some (.iload 4, 2, 0, 0), none, some (.iload_n 1, 1, 0, 0), some (.if_icmp .ge 34, 3, 42, 0), none, none, some (.iload_n 3, 1, 0, 0), some (.aload_n 0, 1, 0, 0), some (.getfield 7, 3, 5, 0), none, none, some (.iload_n 1, 1, 0, 0), some (.iload_n 2, 1, 0, 0), some (.invokestatic 110, 3, 101, 2), none, none, some (.iload 4, 2, 0, 0), none, some (.iadd, 1, 0, 0), some (.iaload, 1, 0, 0), some (.iload_n 1, 1, 0, 0), some (.if_icmp .lt 7, 3, 33, 0), none, none, some (.iconst 1, 1, 0, 0), some (.goto 4, 3, 34, 0), none],
  [none, some (.iconst 0, 1, 0, 0), some (.iadd, 1, 0, 0), some (.istore_n 3, 1, 0, 0), some (.iinc 4 1, 3, 0, 0), none, none, some (.goto (-34), 3, 5, 0), none, none, some (.iload_n 3, 1, 0, 0), some (.ireturn, 1, 0, 0)]]
-- StrandBoxesModel.upsideDown(II)I
def ac_X5_upsideDown : am_C := [[some (.iconst 0, 1, 0, 0), some (.istore_n 3, 1, 0, 0), some (.iload_n 3, 1, 0, 0), some (.iconst 2, 1, 0, 0), some (.iload_n 1, 1, 0, 0), some (.imul, 1, 0, 0), some (.if_icmp .ge 59, 3, 65, 0), none, none, some (.aload_n 0, 1, 0, 0), some (.getfield 7, 3, 5, 0), none, none, some (.iload_n 1, 1, 0, 0), some (.iload_n 2, 1, 0, 0), some (.invokestatic 110, 3, 101, 2), none, none, some (.iload_n 3, 1, 0, 0), some (.iadd, 1, 0, 0), some (.iaload, 1, 0, 0), some (.istore 4, 2, 0, 0), none, some (.aload_n 0, 1, 0, 0), some (.getfield 49, 3, 5, 13), none, none, some (.iload_n 3, 1, 0, 0), some (.iload_n 1, 1, 0, 0), some (.if_icmp .ge 9, 3, 38, 0), none, none],
  [some (.iload_n 3, 1, 0, 0), some (.iload_n 1, 1, 0, 0), some (.iadd, 1, 0, 0), some (.goto 6, 3, 41, 0), none, none, some (.iload_n 3, 1, 0, 0), some (.iload_n 1, 1, 0, 0), some (.isub, 1, 0, 0), some (.iload 4, 2, 0, 0), none, some (.iload_n 1, 1, 0, 0), some (.if_icmp .ge 10, 3, 54, 0), none, none, some (.iload 4, 2, 0, 0), none, some (.iload_n 1, 1, 0, 0), some (.iadd, 1, 0, 0), some (.goto 7, 3, 58, 0), none, none, some (.iload 4, 2, 0, 0), none, some (.iload_n 1, 1, 0, 0), some (.isub, 1, 0, 0), some (.iastore, 1, 0, 0), some (.iinc 3 1, 3, 0, 0), none, none, some (.goto (-60), 3, 2, 0), none],
  [none, some (.aload_n 0, 1, 0, 0), some (.iload_n 1, 1, 0, 0), some (.invokevirtual 121, 3, 6103, 2), none, none, some (.ireturn, 1, 0, 0)]]
-- StrandBoxesModel.about(III)I
def ac_X5_about : am_C := [[some (.iload_n 1, 1, 0, 0), some (.iload_n 2, 1, 0, 0), some (.invokestatic 143, 3, 100, 2), none, none, some (.ifCond .eq 15, 3, 20, 0), none, none, some (.iload_n 3, 1, 0, 0), some (.i2l, 1, 0, 0), some (.lconst 0, 1, 0, 0), some (.ldc2_w 97, 3, 0, 4), none, none, some (.invokestatic 99, 3, 96, 3), none, none, some (.ifCond .ne 5, 3, 22, 0), none, none, some (.iconst (-1), 1, 0, 0), some (.ireturn, 1, 0, 0), some (.iload_n 3, 1, 0, 0), some (.tableswitch 65 0 3 #[29, 44, 51, 58], 29, 0, 0), none, none, none, none, none, none, none, none],
  [none, none, none, none, none, none, none, none, none, none, none, none, none, none, none, none, none, none, none, none, some (.aload_n 0, 1, 0, 0), some (.iload_n 1, 1, 0, 0), some (.iload_n 2, 1, 0, 0), some (.invokevirtual 140, 3, 6110, 3), none, none, some (.ifCond .eq 7, 3, 65, 0), none, none, some (.iconst 1, 1, 0, 0), some (.goto 4, 3, 66, 0), none],
  [none, some (.iconst 0, 1, 0, 0), some (.ireturn, 1, 0, 0), some (.aload_n 0, 1, 0, 0), some (.iload_n 1, 1, 0, 0), some (.iload_n 2, 1, 0, 0), some (.invokevirtual 146, 3, 6114, 3), none, none, some (.ireturn, 1, 0, 0), some (.aload_n 0, 1, 0, 0), some (.iload_n 1, 1, 0, 0), some (.iload_n 2, 1, 0, 0), some (.invokevirtual 149, 3, 6115, 3), none, none, some (.ireturn, 1, 0, 0), some (.aload_n 0, 1, 0, 0), some (.iload_n 1, 1, 0, 0), some (.iload_n 2, 1, 0, 0), some (.invokevirtual 152, 3, 6106, 3), none, none, some (.ireturn, 1, 0, 0), some (.aload_n 0, 1, 0, 0), some (.getfield 19, 3, 5, 3), none, none, some (.iload_n 1, 1, 0, 0), some (.invokestatic 107, 3, 99, 1), none, none],
  [some (.iload_n 2, 1, 0, 0), some (.iadd, 1, 0, 0), some (.iaload, 1, 0, 0), some (.ireturn, 1, 0, 0)]]
-- StrandBoxesModel.stack(III)I
def ac_X5_stack : am_C := [[some (.iload_n 1, 1, 0, 0), some (.iload_n 2, 1, 0, 0), some (.invokestatic 143, 3, 100, 2), none, none, some (.ifCond .eq 11, 3, 16, 0), none, none, some (.iload_n 1, 1, 0, 0), some (.iload_n 3, 1, 0, 0), some (.invokestatic 143, 3, 100, 2), none, none, some (.ifCond .ne 5, 3, 18, 0), none, none, some (.iconst (-1), 1, 0, 0), some (.ireturn, 1, 0, 0), some (.aload_n 0, 1, 0, 0), some (.iload_n 1, 1, 0, 0), some (.iload_n 2, 1, 0, 0), some (.iload_n 3, 1, 0, 0), some (.invokevirtual 133, 3, 6105, 4), none, none, some (.istore 4, 2, 0, 0), none, some (.iload 4, 2, 0, 0), none, some (.sipush 1000, 3, 0, 0), none, none],
  [some (.aload_n 0, 1, 0, 0), some (.getfield 118, 3, 5, 15), none, none, some (.imul, 1, 0, 0), some (.iadd, 1, 0, 0), some (.ireturn, 1, 0, 0)]]
-- StrandBoxesModel.box(IJ)I
def ac_X5_box : am_C := [[some (.iload_n 1, 1, 0, 0), some (.invokestatic 103, 3, 97, 1), none, none, some (.ifCond .eq 20, 3, 24, 0), none, none, some (.iload_n 1, 1, 0, 0), some (.bipush 8, 2, 0, 0), none, some (.if_icmp .ge 16, 3, 26, 0), none, none, some (.lload_n 2, 1, 0, 0), some (.bipush 8, 2, 0, 0), none, some (.iload_n 1, 1, 0, 0), some (.imul, 1, 0, 0), some (.lshr, 1, 0, 0), some (.lconst 0, 1, 0, 0), some (.lcmp, 1, 0, 0), some (.ifCond .eq 5, 3, 26, 0), none, none, some (.iconst (-1), 1, 0, 0), some (.ireturn, 1, 0, 0), some (.iconst 0, 1, 0, 0), some (.istore 4, 2, 0, 0), none, some (.iload 4, 2, 0, 0), none, some (.bipush 8, 2, 0, 0)],
  [none, some (.if_icmp .ge 18, 3, 51, 0), none, none, some (.aload_n 0, 1, 0, 0), some (.getfield 49, 3, 5, 13), none, none, some (.iload 4, 2, 0, 0), none, some (.bipush (-4), 2, 0, 0), none, some (.iastore, 1, 0, 0), some (.iinc 4 1, 3, 0, 0), none, none, some (.goto (-19), 3, 29, 0), none, none, some (.iconst 0, 1, 0, 0), some (.istore 4, 2, 0, 0), none, some (.iload 4, 2, 0, 0), none, some (.iload_n 1, 1, 0, 0), some (.if_icmp .ge 106, 3, 163, 0), none, none, some (.lload_n 2, 1, 0, 0), some (.bipush 8, 2, 0, 0), none, some (.iload 4, 2, 0, 0)],
  [none, some (.imul, 1, 0, 0), some (.lshr, 1, 0, 0), some (.ldc2_w 155, 3, 0, 15), none, none, some (.land, 1, 0, 0), some (.l2i, 1, 0, 0), some (.istore 5, 2, 0, 0), none, some (.lload_n 2, 1, 0, 0), some (.bipush 8, 2, 0, 0), none, some (.iload 4, 2, 0, 0), none, some (.imul, 1, 0, 0), some (.iconst 4, 1, 0, 0), some (.iadd, 1, 0, 0), some (.lshr, 1, 0, 0), some (.ldc2_w 155, 3, 0, 15), none, none, some (.land, 1, 0, 0), some (.l2i, 1, 0, 0), some (.istore 6, 2, 0, 0), none, some (.iload 5, 2, 0, 0), none, some (.iconst 2, 1, 0, 0), some (.iload_n 1, 1, 0, 0), some (.imul, 1, 0, 0), some (.if_icmp .ge 42, 3, 137, 0)],
  [none, none, some (.iload 6, 2, 0, 0), none, some (.iconst 2, 1, 0, 0), some (.iload_n 1, 1, 0, 0), some (.imul, 1, 0, 0), some (.if_icmp .ge 34, 3, 137, 0), none, none, some (.iload 5, 2, 0, 0), none, some (.iload 6, 2, 0, 0), none, some (.if_icmp .eq 27, 3, 137, 0), none, none, some (.aload_n 0, 1, 0, 0), some (.getfield 49, 3, 5, 13), none, none, some (.iload 5, 2, 0, 0), none, some (.iaload, 1, 0, 0), some (.bipush (-4), 2, 0, 0), none, some (.if_icmp .ne 15, 3, 137, 0), none, none, some (.aload_n 0, 1, 0, 0), some (.getfield 49, 3, 5, 13), none],
  [none, some (.iload 6, 2, 0, 0), none, some (.iaload, 1, 0, 0), some (.bipush (-4), 2, 0, 0), none, some (.if_icmp .eq 5, 3, 139, 0), none, none, some (.iconst (-1), 1, 0, 0), some (.ireturn, 1, 0, 0), some (.aload_n 0, 1, 0, 0), some (.getfield 49, 3, 5, 13), none, none, some (.iload 5, 2, 0, 0), none, some (.iload 6, 2, 0, 0), none, some (.iastore, 1, 0, 0), some (.aload_n 0, 1, 0, 0), some (.getfield 49, 3, 5, 13), none, none, some (.iload 6, 2, 0, 0), none, some (.iload 5, 2, 0, 0), none, some (.iastore, 1, 0, 0), some (.iinc 4 1, 3, 0, 0), none, none],
  [some (.goto (-106), 3, 54, 0), none, none, some (.aload_n 0, 1, 0, 0), some (.iload_n 1, 1, 0, 0), some (.invokevirtual 121, 3, 6103, 2), none, none, some (.ireturn, 1, 0, 0)]]
-- StrandBoxesModel.plain(II)I
def ac_X5_plain : am_C := [[some (.iload_n 1, 1, 0, 0), some (.invokestatic 103, 3, 97, 1), none, none, some (.ifCond .eq 15, 3, 19, 0), none, none, some (.iload_n 2, 1, 0, 0), some (.ifCond .eq 15, 3, 23, 0), none, none, some (.iload_n 1, 1, 0, 0), some (.iload_n 2, 1, 0, 0), some (.invokestatic 129, 3, 107, 2), none, none, some (.ifCond .ne 7, 3, 23, 0), none, none, some (.iconst (-1), 1, 0, 0), some (.goto 9, 3, 29, 0), none, none, some (.aload_n 0, 1, 0, 0), some (.iload_n 1, 1, 0, 0), some (.iload_n 2, 1, 0, 0), some (.invokevirtual 126, 3, 6108, 3), none, none, some (.ireturn, 1, 0, 0)]]
-- StrandBoxesModel.word(III)I
def ac_X5_word : am_C := [[some (.iload_n 1, 1, 0, 0), some (.iload_n 2, 1, 0, 0), some (.invokestatic 143, 3, 100, 2), none, none, some (.ifCond .eq 7, 3, 12, 0), none, none, some (.iload_n 3, 1, 0, 0), some (.ifCond .ge 5, 3, 14, 0), none, none, some (.iconst (-1), 1, 0, 0), some (.ireturn, 1, 0, 0), some (.iload_n 1, 1, 0, 0), some (.invokestatic 107, 3, 99, 1), none, none, some (.istore 4, 2, 0, 0), none, some (.aload_n 0, 1, 0, 0), some (.getfield 19, 3, 5, 3), none, none, some (.iload 4, 2, 0, 0), none, some (.iload_n 2, 1, 0, 0), some (.iadd, 1, 0, 0), some (.iaload, 1, 0, 0), some (.istore 5, 2, 0, 0), none, some (.iload_n 3, 1, 0, 0)],
  [some (.iload 5, 2, 0, 0), none, some (.if_icmp .lt 6, 3, 40, 0), none, none, some (.bipush (-4), 2, 0, 0), none, some (.ireturn, 1, 0, 0), some (.iload_n 2, 1, 0, 0), some (.istore 6, 2, 0, 0), none, some (.iload 5, 2, 0, 0), none, some (.iconst 1, 1, 0, 0), some (.isub, 1, 0, 0), some (.istore 7, 2, 0, 0), none, some (.iload 7, 2, 0, 0), none, some (.iload_n 3, 1, 0, 0), some (.if_icmp .le 21, 3, 73, 0), none, none, some (.aload_n 0, 1, 0, 0), some (.getfield 16, 3, 5, 2), none, none, some (.iload 4, 2, 0, 0), none, some (.iload 6, 2, 0, 0), none, some (.iadd, 1, 0, 0)],
  [some (.iaload, 1, 0, 0), some (.istore 6, 2, 0, 0), none, some (.iinc 7 (-1), 3, 0, 0), none, none, some (.goto (-21), 3, 49, 0), none, none, some (.aload_n 0, 1, 0, 0), some (.getfield 13, 3, 5, 1), none, none, some (.iload 4, 2, 0, 0), none, some (.iload 6, 2, 0, 0), none, some (.iadd, 1, 0, 0), some (.iaload, 1, 0, 0), some (.ireturn, 1, 0, 0)]]
-- StrandBoxesModel.isSum(I)Z
def ac_X5_isSum : am_C := [[some (.iload_n 0, 1, 0, 0), some (.i2l, 1, 0, 0), some (.lconst 0, 1, 0, 0), some (.ldc2_w 157, 3, 0, 7), none, none, some (.invokestatic 99, 3, 96, 3), none, none, some (.ireturn, 1, 1, 0)]]
-- StrandBoxesModel.load(I)V
def ac_X5_load : am_C := [[some (.aload_n 0, 1, 0, 0), some (.aload_n 0, 1, 0, 0), some (.getfield 25, 3, 5, 5), none, none, some (.iload_n 1, 1, 0, 0), some (.iaload, 1, 0, 0), some (.putfield 159, 3, 5, 17), none, none, some (.iconst 0, 1, 0, 0), some (.istore_n 2, 1, 0, 0), some (.iload_n 2, 1, 0, 0), some (.aload_n 0, 1, 0, 0), some (.getfield 159, 3, 5, 17), none, none, some (.if_icmp .ge 60, 3, 77, 0), none, none, some (.aload_n 0, 1, 0, 0), some (.getfield 58, 3, 5, 18), none, none, some (.iload_n 2, 1, 0, 0), some (.aload_n 0, 1, 0, 0), some (.getfield 28, 3, 5, 6), none, none, some (.bipush 40, 2, 0, 0), none, some (.iload_n 1, 1, 0, 0)],
  [some (.imul, 1, 0, 0), some (.iload_n 2, 1, 0, 0), some (.iadd, 1, 0, 0), some (.iaload, 1, 0, 0), some (.iastore, 1, 0, 0), some (.aload_n 0, 1, 0, 0), some (.getfield 61, 3, 5, 19), none, none, some (.iload_n 2, 1, 0, 0), some (.aload_n 0, 1, 0, 0), some (.getfield 31, 3, 5, 7), none, none, some (.bipush 40, 2, 0, 0), none, some (.iload_n 1, 1, 0, 0), some (.imul, 1, 0, 0), some (.iload_n 2, 1, 0, 0), some (.iadd, 1, 0, 0), some (.iaload, 1, 0, 0), some (.iastore, 1, 0, 0), some (.aload_n 0, 1, 0, 0), some (.getfield 64, 3, 5, 20), none, none, some (.iload_n 2, 1, 0, 0), some (.aload_n 0, 1, 0, 0), some (.getfield 34, 3, 5, 8), none, none, some (.bipush 40, 2, 0, 0)],
  [none, some (.iload_n 1, 1, 0, 0), some (.imul, 1, 0, 0), some (.iload_n 2, 1, 0, 0), some (.iadd, 1, 0, 0), some (.laload, 1, 0, 0), some (.lastore, 1, 0, 0), some (.iinc 2 1, 3, 0, 0), none, none, some (.goto (-62), 3, 12, 0), none, none, some (.return_, 1, 0, 0)]]
-- StrandBoxesModel.store(II)I
def ac_X5_store : am_C := [[some (.aload_n 0, 1, 0, 0), some (.getfield 22, 3, 5, 4), none, none, some (.iload_n 1, 1, 0, 0), some (.iload_n 2, 1, 0, 0), some (.iastore, 1, 0, 0), some (.aload_n 0, 1, 0, 0), some (.getfield 25, 3, 5, 5), none, none, some (.iload_n 1, 1, 0, 0), some (.aload_n 0, 1, 0, 0), some (.getfield 159, 3, 5, 17), none, none, some (.iastore, 1, 0, 0), some (.iconst 0, 1, 0, 0), some (.istore_n 3, 1, 0, 0), some (.iload_n 3, 1, 0, 0), some (.aload_n 0, 1, 0, 0), some (.getfield 159, 3, 5, 17), none, none, some (.if_icmp .ge 60, 3, 84, 0), none, none, some (.aload_n 0, 1, 0, 0), some (.getfield 28, 3, 5, 6), none, none, some (.bipush 40, 2, 0, 0)],
  [none, some (.iload_n 1, 1, 0, 0), some (.imul, 1, 0, 0), some (.iload_n 3, 1, 0, 0), some (.iadd, 1, 0, 0), some (.aload_n 0, 1, 0, 0), some (.getfield 58, 3, 5, 18), none, none, some (.iload_n 3, 1, 0, 0), some (.iaload, 1, 0, 0), some (.iastore, 1, 0, 0), some (.aload_n 0, 1, 0, 0), some (.getfield 31, 3, 5, 7), none, none, some (.bipush 40, 2, 0, 0), none, some (.iload_n 1, 1, 0, 0), some (.imul, 1, 0, 0), some (.iload_n 3, 1, 0, 0), some (.iadd, 1, 0, 0), some (.aload_n 0, 1, 0, 0), some (.getfield 61, 3, 5, 19), none, none, some (.iload_n 3, 1, 0, 0), some (.iaload, 1, 0, 0), some (.iastore, 1, 0, 0), some (.aload_n 0, 1, 0, 0), some (.getfield 34, 3, 5, 8), none],
  [none, some (.bipush 40, 2, 0, 0), none, some (.iload_n 1, 1, 0, 0), some (.imul, 1, 0, 0), some (.iload_n 3, 1, 0, 0), some (.iadd, 1, 0, 0), some (.aload_n 0, 1, 0, 0), some (.getfield 64, 3, 5, 20), none, none, some (.iload_n 3, 1, 0, 0), some (.laload, 1, 0, 0), some (.lastore, 1, 0, 0), some (.iinc 3 1, 3, 0, 0), none, none, some (.goto (-62), 3, 19, 0), none, none, some (.aload_n 0, 1, 0, 0), some (.getfield 159, 3, 5, 17), none, none, some (.ireturn, 1, 0, 0)]]
-- StrandBoxesModel.move(II)V
def ac_X5_move : am_C := [[some (.aload_n 0, 1, 0, 0), some (.getfield 58, 3, 5, 18), none, none, some (.iload_n 1, 1, 0, 0), some (.aload_n 0, 1, 0, 0), some (.getfield 58, 3, 5, 18), none, none, some (.iload_n 2, 1, 0, 0), some (.iaload, 1, 0, 0), some (.iastore, 1, 0, 0), some (.aload_n 0, 1, 0, 0), some (.getfield 61, 3, 5, 19), none, none, some (.iload_n 1, 1, 0, 0), some (.aload_n 0, 1, 0, 0), some (.getfield 61, 3, 5, 19), none, none, some (.iload_n 2, 1, 0, 0), some (.iaload, 1, 0, 0), some (.iastore, 1, 0, 0), some (.aload_n 0, 1, 0, 0), some (.getfield 64, 3, 5, 20), none, none, some (.iload_n 1, 1, 0, 0), some (.aload_n 0, 1, 0, 0), some (.getfield 64, 3, 5, 20), none],
  [none, some (.iload_n 2, 1, 0, 0), some (.laload, 1, 0, 0), some (.lastore, 1, 0, 0), some (.return_, 1, 0, 0)]]
-- StrandBoxesModel.comes(IIJ)Z
def ac_X5_comes : am_C := [[some (.lload_n 3, 1, 0, 0), some (.lconst 0, 1, 0, 0), some (.lcmp, 1, 0, 0), some (.ifCond .ne 5, 3, 8, 0), none, none, some (.iconst 1, 1, 0, 0), some (.ireturn, 1, 1, 0), some (.iload_n 2, 1, 0, 0), some (.bipush 20, 2, 0, 0), none, some (.if_icmp .gt 16, 3, 27, 0), none, none, some (.lload_n 3, 1, 0, 0), some (.ldc2_w 162, 3, 1, 999999999999), none, none, some (.ldc2_w 164, 3, 0, 1000000000000), none, none, some (.invokestatic 99, 3, 96, 3), none, none, some (.ifCond .ne 5, 3, 29, 0), none, none, some (.iconst 0, 1, 0, 0), some (.ireturn, 1, 1, 0), some (.iconst 0, 1, 0, 0), some (.istore 5, 2, 0, 0), none],
  [some (.iload 5, 2, 0, 0), none, some (.aload_n 0, 1, 0, 0), some (.getfield 159, 3, 5, 17), none, none, some (.if_icmp .ge 42, 3, 80, 0), none, none, some (.aload_n 0, 1, 0, 0), some (.getfield 58, 3, 5, 18), none, none, some (.iload 5, 2, 0, 0), none, some (.iaload, 1, 0, 0), some (.iload_n 1, 1, 0, 0), some (.if_icmp .lt 25, 3, 74, 0), none, none, some (.aload_n 0, 1, 0, 0), some (.getfield 58, 3, 5, 18), none, none, some (.iload 5, 2, 0, 0), none, some (.iaload, 1, 0, 0), some (.iload_n 1, 1, 0, 0), some (.if_icmp .ne 20, 3, 80, 0), none, none, some (.aload_n 0, 1, 0, 0)],
  [some (.getfield 61, 3, 5, 19), none, none, some (.iload 5, 2, 0, 0), none, some (.iaload, 1, 0, 0), some (.iload_n 2, 1, 0, 0), some (.if_icmp .ge 9, 3, 80, 0), none, none, some (.iinc 5 1, 3, 0, 0), none, none, some (.goto (-45), 3, 32, 0), none, none, some (.iload 5, 2, 0, 0), none, some (.aload_n 0, 1, 0, 0), some (.getfield 159, 3, 5, 17), none, none, some (.if_icmp .ge 106, 3, 192, 0), none, none, some (.aload_n 0, 1, 0, 0), some (.getfield 58, 3, 5, 18), none, none, some (.iload 5, 2, 0, 0), none, some (.iaload, 1, 0, 0)],
  [some (.iload_n 1, 1, 0, 0), some (.if_icmp .ne 95, 3, 192, 0), none, none, some (.aload_n 0, 1, 0, 0), some (.getfield 61, 3, 5, 19), none, none, some (.iload 5, 2, 0, 0), none, some (.iaload, 1, 0, 0), some (.iload_n 2, 1, 0, 0), some (.if_icmp .ne 84, 3, 192, 0), none, none, some (.aload_n 0, 1, 0, 0), some (.getfield 64, 3, 5, 20), none, none, some (.iload 5, 2, 0, 0), none, some (.dup2, 1, 0, 0), some (.laload, 1, 0, 0), some (.lload_n 3, 1, 0, 0), some (.ladd, 1, 0, 0), some (.lastore, 1, 0, 0), some (.aload_n 0, 1, 0, 0), some (.getfield 64, 3, 5, 20), none, none, some (.iload 5, 2, 0, 0), none],
  [some (.laload, 1, 0, 0), some (.lconst 0, 1, 0, 0), some (.lcmp, 1, 0, 0), some (.ifCond .ne 44, 3, 175, 0), none, none, some (.aload_n 0, 1, 0, 0), some (.dup, 1, 0, 0), some (.getfield 159, 3, 5, 17), none, none, some (.iconst 1, 1, 0, 0), some (.isub, 1, 0, 0), some (.putfield 159, 3, 5, 17), none, none, some (.iload 5, 2, 0, 0), none, some (.istore 6, 2, 0, 0), none, some (.iload 6, 2, 0, 0), none, some (.aload_n 0, 1, 0, 0), some (.getfield 159, 3, 5, 17), none, none, some (.if_icmp .ge 19, 3, 173, 0), none, none, some (.aload_n 0, 1, 0, 0), some (.iload 6, 2, 0, 0), none],
  [some (.iload 6, 2, 0, 0), none, some (.iconst 1, 1, 0, 0), some (.iadd, 1, 0, 0), some (.invokevirtual 166, 3, 6124, 3), none, none, some (.iinc 6 1, 3, 0, 0), none, none, some (.goto (-22), 3, 148, 0), none, none, some (.iconst 1, 1, 0, 0), some (.ireturn, 1, 1, 0), some (.aload_n 0, 1, 0, 0), some (.getfield 64, 3, 5, 20), none, none, some (.iload 5, 2, 0, 0), none, some (.laload, 1, 0, 0), some (.ldc2_w 162, 3, 1, 999999999999), none, none, some (.ldc2_w 164, 3, 0, 1000000000000), none, none, some (.invokestatic 99, 3, 96, 3), none, none, some (.ireturn, 1, 1, 0)],
  [some (.aload_n 0, 1, 0, 0), some (.getfield 159, 3, 5, 17), none, none, some (.bipush 40, 2, 0, 0), none, some (.if_icmp .ne 5, 3, 203, 0), none, none, some (.iconst 0, 1, 0, 0), some (.ireturn, 1, 1, 0), some (.aload_n 0, 1, 0, 0), some (.getfield 159, 3, 5, 17), none, none, some (.istore 6, 2, 0, 0), none, some (.iload 6, 2, 0, 0), none, some (.iload 5, 2, 0, 0), none, some (.if_icmp .le 19, 3, 232, 0), none, none, some (.aload_n 0, 1, 0, 0), some (.iload 6, 2, 0, 0), none, some (.iload 6, 2, 0, 0), none, some (.iconst 1, 1, 0, 0), some (.isub, 1, 0, 0), some (.invokevirtual 166, 3, 6124, 3)],
  [none, none, some (.iinc 6 (-1), 3, 0, 0), none, none, some (.goto (-20), 3, 209, 0), none, none, some (.aload_n 0, 1, 0, 0), some (.getfield 58, 3, 5, 18), none, none, some (.iload 5, 2, 0, 0), none, some (.iload_n 1, 1, 0, 0), some (.iastore, 1, 0, 0), some (.aload_n 0, 1, 0, 0), some (.getfield 61, 3, 5, 19), none, none, some (.iload 5, 2, 0, 0), none, some (.iload_n 2, 1, 0, 0), some (.iastore, 1, 0, 0), some (.aload_n 0, 1, 0, 0), some (.getfield 64, 3, 5, 20), none, none, some (.iload 5, 2, 0, 0), none, some (.lload_n 3, 1, 0, 0), some (.lastore, 1, 0, 0)],
  [some (.aload_n 0, 1, 0, 0), some (.dup, 1, 0, 0), some (.getfield 159, 3, 5, 17), none, none, some (.iconst 1, 1, 0, 0), some (.iadd, 1, 0, 0), some (.putfield 159, 3, 5, 17), none, none, some (.iconst 1, 1, 0, 0), some (.ireturn, 1, 1, 0)]]
-- StrandBoxesModel.clear(II)I
def ac_X5_clear : am_C := [[some (.iload_n 1, 1, 0, 0), some (.invokestatic 169, 3, 121, 1), none, none, some (.ifCond .eq 10, 3, 14, 0), none, none, some (.iload_n 2, 1, 0, 0), some (.invokestatic 103, 3, 97, 1), none, none, some (.ifCond .ne 5, 3, 16, 0), none, none, some (.iconst (-1), 1, 0, 0), some (.ireturn, 1, 0, 0), some (.aload_n 0, 1, 0, 0), some (.getfield 25, 3, 5, 5), none, none, some (.iload_n 1, 1, 0, 0), some (.iaload, 1, 0, 0), some (.istore_n 3, 1, 0, 0), some (.aload_n 0, 1, 0, 0), some (.iconst 0, 1, 0, 0), some (.putfield 159, 3, 5, 17), none, none, some (.aload_n 0, 1, 0, 0), some (.iload_n 1, 1, 0, 0), some (.iload_n 2, 1, 0, 0), some (.invokevirtual 172, 3, 6123, 3)],
  [none, none, some (.istore 4, 2, 0, 0), none, some (.iload_n 3, 1, 0, 0), some (.ireturn, 1, 0, 0)]]
-- StrandBoxesModel.add(IIIJ)I
def ac_X5_add : am_C := [[some (.iload_n 1, 1, 0, 0), some (.invokestatic 169, 3, 121, 1), none, none, some (.ifCond .eq 42, 3, 46, 0), none, none, some (.aload_n 0, 1, 0, 0), some (.getfield 22, 3, 5, 4), none, none, some (.iload_n 1, 1, 0, 0), some (.iaload, 1, 0, 0), some (.iload_n 2, 1, 0, 0), some (.invokestatic 143, 3, 100, 2), none, none, some (.ifCond .eq 29, 3, 46, 0), none, none, some (.iload_n 3, 1, 0, 0), some (.i2l, 1, 0, 0), some (.lconst 0, 1, 0, 0), some (.ldc2_w 175, 3, 0, 20), none, none, some (.invokestatic 99, 3, 96, 3), none, none, some (.ifCond .eq 17, 3, 46, 0), none, none],
  [some (.lload 4, 2, 0, 0), none, some (.ldc2_w 177, 3, 1, 999999), none, none, some (.ldc2_w 179, 3, 0, 1000000), none, none, some (.invokestatic 99, 3, 96, 3), none, none, some (.ifCond .ne 5, 3, 48, 0), none, none, some (.iconst (-1), 1, 0, 0), some (.ireturn, 1, 0, 0), some (.aload_n 0, 1, 0, 0), some (.iload_n 1, 1, 0, 0), some (.invokevirtual 181, 3, 6122, 2), none, none, some (.aload_n 0, 1, 0, 0), some (.iload_n 2, 1, 0, 0), some (.iload_n 3, 1, 0, 0), some (.lload 4, 2, 0, 0), none, some (.invokevirtual 184, 3, 6125, 4), none, none, some (.ifCond .eq 17, 3, 78, 0), none, none],
  [some (.aload_n 0, 1, 0, 0), some (.iload_n 1, 1, 0, 0), some (.aload_n 0, 1, 0, 0), some (.getfield 22, 3, 5, 4), none, none, some (.iload_n 1, 1, 0, 0), some (.iaload, 1, 0, 0), some (.invokevirtual 172, 3, 6123, 3), none, none, some (.goto 5, 3, 80, 0), none, none, some (.bipush (-5), 2, 0, 0), none, some (.ireturn, 1, 0, 0)]]
-- StrandBoxesModel.work(IIII)I
def ac_X5_work : am_C := [[some (.iload_n 1, 1, 0, 0), some (.invokestatic 169, 3, 121, 1), none, none, some (.ifCond .eq 30, 3, 34, 0), none, none, some (.iload_n 2, 1, 0, 0), some (.i2l, 1, 0, 0), some (.lconst 0, 1, 0, 0), some (.ldc2_w 188, 3, 0, 2), none, none, some (.invokestatic 99, 3, 96, 3), none, none, some (.ifCond .eq 18, 3, 34, 0), none, none, some (.iload_n 3, 1, 0, 0), some (.invokestatic 169, 3, 121, 1), none, none, some (.ifCond .eq 11, 3, 34, 0), none, none, some (.iload 4, 2, 0, 0), none, some (.invokestatic 169, 3, 121, 1), none, none, some (.ifCond .ne 5, 3, 36, 0)],
  [none, none, some (.iconst (-1), 1, 0, 0), some (.ireturn, 1, 0, 0), some (.aload_n 0, 1, 0, 0), some (.getfield 22, 3, 5, 4), none, none, some (.iload_n 3, 1, 0, 0), some (.iaload, 1, 0, 0), some (.aload_n 0, 1, 0, 0), some (.getfield 22, 3, 5, 4), none, none, some (.iload 4, 2, 0, 0), none, some (.iaload, 1, 0, 0), some (.if_icmp .eq 6, 3, 55, 0), none, none, some (.bipush (-2), 2, 0, 0), none, some (.ireturn, 1, 0, 0), some (.aload_n 0, 1, 0, 0), some (.getfield 22, 3, 5, 4), none, none, some (.iload_n 3, 1, 0, 0), some (.iaload, 1, 0, 0), some (.istore 5, 2, 0, 0), none, some (.iconst 1, 1, 0, 0)],
  [some (.istore 6, 2, 0, 0), none, some (.iload_n 2, 1, 0, 0), some (.iconst 2, 1, 0, 0), some (.if_icmp .ge 111, 3, 179, 0), none, none, some (.aload_n 0, 1, 0, 0), some (.iload_n 3, 1, 0, 0), some (.invokevirtual 181, 3, 6122, 2), none, none, some (.iconst 0, 1, 0, 0), some (.istore 7, 2, 0, 0), none, some (.iload 7, 2, 0, 0), none, some (.aload_n 0, 1, 0, 0), some (.getfield 25, 3, 5, 5), none, none, some (.iload 4, 2, 0, 0), none, some (.iaload, 1, 0, 0), some (.if_icmp .ge 73, 3, 161, 0), none, none, some (.iload 6, 2, 0, 0), none, some (.ifCond .eq 68, 3, 161, 0), none, none],
  [some (.aload_n 0, 1, 0, 0), some (.getfield 34, 3, 5, 8), none, none, some (.bipush 40, 2, 0, 0), none, some (.iload 4, 2, 0, 0), none, some (.imul, 1, 0, 0), some (.iload 7, 2, 0, 0), none, some (.iadd, 1, 0, 0), some (.laload, 1, 0, 0), some (.lstore 8, 2, 0, 0), none, some (.aload_n 0, 1, 0, 0), some (.aload_n 0, 1, 0, 0), some (.getfield 28, 3, 5, 6), none, none, some (.bipush 40, 2, 0, 0), none, some (.iload 4, 2, 0, 0), none, some (.imul, 1, 0, 0), some (.iload 7, 2, 0, 0), none, some (.iadd, 1, 0, 0), some (.iaload, 1, 0, 0), some (.aload_n 0, 1, 0, 0), some (.getfield 31, 3, 5, 7), none],
  [none, some (.bipush 40, 2, 0, 0), none, some (.iload 4, 2, 0, 0), none, some (.imul, 1, 0, 0), some (.iload 7, 2, 0, 0), none, some (.iadd, 1, 0, 0), some (.iaload, 1, 0, 0), some (.iload_n 2, 1, 0, 0), some (.ifCond .ne 8, 3, 147, 0), none, none, some (.lload 8, 2, 0, 0), none, some (.goto 6, 3, 150, 0), none, none, some (.lload 8, 2, 0, 0), none, some (.lneg, 1, 0, 0), some (.invokevirtual 184, 3, 6125, 4), none, none, some (.istore 6, 2, 0, 0), none, some (.iinc 7 1, 3, 0, 0), none, none, some (.goto (-79), 3, 79, 0), none],
  [none, some (.iload 6, 2, 0, 0), none, some (.ifCond .eq 13, 3, 176, 0), none, none, some (.aload_n 0, 1, 0, 0), some (.iload_n 1, 1, 0, 0), some (.iload 5, 2, 0, 0), none, some (.invokevirtual 172, 3, 6123, 3), none, none, some (.goto 5, 3, 178, 0), none, none, some (.bipush (-5), 2, 0, 0), none, some (.ireturn, 1, 0, 0), some (.aload_n 0, 1, 0, 0), some (.iconst 0, 1, 0, 0), some (.putfield 159, 3, 5, 17), none, none, some (.iconst 0, 1, 0, 0), some (.istore 7, 2, 0, 0), none, some (.iload 7, 2, 0, 0), none, some (.aload_n 0, 1, 0, 0), some (.getfield 25, 3, 5, 5), none],
  [none, some (.iload_n 3, 1, 0, 0), some (.iaload, 1, 0, 0), some (.if_icmp .ge 192, 3, 387, 0), none, none, some (.iload 6, 2, 0, 0), none, some (.ifCond .eq 187, 3, 387, 0), none, none, some (.iconst 0, 1, 0, 0), some (.istore 8, 2, 0, 0), none, some (.iload 8, 2, 0, 0), none, some (.aload_n 0, 1, 0, 0), some (.getfield 25, 3, 5, 5), none, none, some (.iload 4, 2, 0, 0), none, some (.iaload, 1, 0, 0), some (.if_icmp .ge 166, 3, 381, 0), none, none, some (.iload 6, 2, 0, 0), none, some (.ifCond .eq 161, 3, 381, 0), none, none, some (.aload_n 0, 1, 0, 0)],
  [some (.getfield 34, 3, 5, 8), none, none, some (.bipush 40, 2, 0, 0), none, some (.iload_n 3, 1, 0, 0), some (.imul, 1, 0, 0), some (.iload 7, 2, 0, 0), none, some (.iadd, 1, 0, 0), some (.laload, 1, 0, 0), some (.lstore 9, 2, 0, 0), none, some (.aload_n 0, 1, 0, 0), some (.getfield 34, 3, 5, 8), none, none, some (.bipush 40, 2, 0, 0), none, some (.iload 4, 2, 0, 0), none, some (.imul, 1, 0, 0), some (.iload 8, 2, 0, 0), none, some (.iadd, 1, 0, 0), some (.laload, 1, 0, 0), some (.lstore 11, 2, 0, 0), none, some (.ldc2_w 164, 3, 0, 1000000000000), none, none, some (.lload 11, 2, 0, 0)],
  [none, some (.lconst 0, 1, 0, 0), some (.lcmp, 1, 0, 0), some (.ifCond .ge 9, 3, 268, 0), none, none, some (.lload 11, 2, 0, 0), none, some (.lneg, 1, 0, 0), some (.goto 5, 3, 270, 0), none, none, some (.lload 11, 2, 0, 0), none, some (.ldiv, 1, 0, 0), some (.lstore 13, 2, 0, 0), none, some (.aload_n 0, 1, 0, 0), some (.iload 5, 2, 0, 0), none, some (.aload_n 0, 1, 0, 0), some (.getfield 28, 3, 5, 6), none, none, some (.bipush 40, 2, 0, 0), none, some (.iload_n 3, 1, 0, 0), some (.imul, 1, 0, 0), some (.iload 7, 2, 0, 0), none, some (.iadd, 1, 0, 0), some (.iaload, 1, 0, 0)],
  [some (.aload_n 0, 1, 0, 0), some (.getfield 28, 3, 5, 6), none, none, some (.bipush 40, 2, 0, 0), none, some (.iload 4, 2, 0, 0), none, some (.imul, 1, 0, 0), some (.iload 8, 2, 0, 0), none, some (.iadd, 1, 0, 0), some (.iaload, 1, 0, 0), some (.invokevirtual 133, 3, 6105, 4), none, none, some (.istore 15, 2, 0, 0), none, some (.aload_n 0, 1, 0, 0), some (.getfield 31, 3, 5, 7), none, none, some (.bipush 40, 2, 0, 0), none, some (.iload_n 3, 1, 0, 0), some (.imul, 1, 0, 0), some (.iload 7, 2, 0, 0), none, some (.iadd, 1, 0, 0), some (.iaload, 1, 0, 0), some (.aload_n 0, 1, 0, 0), some (.getfield 31, 3, 5, 7)],
  [none, none, some (.bipush 40, 2, 0, 0), none, some (.iload 4, 2, 0, 0), none, some (.imul, 1, 0, 0), some (.iload 8, 2, 0, 0), none, some (.iadd, 1, 0, 0), some (.iaload, 1, 0, 0), some (.iadd, 1, 0, 0), some (.aload_n 0, 1, 0, 0), some (.getfield 118, 3, 5, 15), none, none, some (.iadd, 1, 0, 0), some (.istore 16, 2, 0, 0), none, some (.lload 9, 2, 0, 0), none, some (.lload 13, 2, 0, 0), none, some (.lneg, 1, 0, 0), some (.lload 13, 2, 0, 0), none, some (.invokestatic 99, 3, 96, 3), none, none, some (.ifCond .eq 23, 3, 372, 0), none, none],
  [some (.aload_n 0, 1, 0, 0), some (.iload 15, 2, 0, 0), none, some (.iload 16, 2, 0, 0), none, some (.lload 9, 2, 0, 0), none, some (.lload 11, 2, 0, 0), none, some (.lmul, 1, 0, 0), some (.invokevirtual 184, 3, 6125, 4), none, none, some (.ifCond .eq 7, 3, 372, 0), none, none, some (.iconst 1, 1, 0, 0), some (.goto 4, 3, 373, 0), none, none, some (.iconst 0, 1, 0, 0), some (.istore 6, 2, 0, 0), none, some (.iinc 8 1, 3, 0, 0), none, none, some (.goto (-172), 3, 206, 0), none, none, some (.iinc 7 1, 3, 0, 0), none, none],
  [some (.goto (-197), 3, 187, 0), none, none, some (.iload 6, 2, 0, 0), none, some (.ifCond .eq 13, 3, 402, 0), none, none, some (.aload_n 0, 1, 0, 0), some (.iload_n 1, 1, 0, 0), some (.iload 5, 2, 0, 0), none, some (.invokevirtual 172, 3, 6123, 3), none, none, some (.goto 5, 3, 404, 0), none, none, some (.bipush (-5), 2, 0, 0), none, some (.ireturn, 1, 0, 0)]]
-- StrandBoxesModel.sum(II)I
def ac_X5_sum : am_C := [[some (.iload_n 1, 1, 0, 0), some (.invokestatic 169, 3, 121, 1), none, none, some (.ifCond .eq 13, 3, 17, 0), none, none, some (.iload_n 2, 1, 0, 0), some (.i2l, 1, 0, 0), some (.lconst 0, 1, 0, 0), some (.lconst 1, 1, 0, 0), some (.invokestatic 99, 3, 96, 3), none, none, some (.ifCond .ne 7, 3, 21, 0), none, none, some (.iconst (-1), 1, 0, 0), some (.goto 22, 3, 40, 0), none, none, some (.iload_n 2, 1, 0, 0), some (.ifCond .ne 12, 3, 34, 0), none, none, some (.aload_n 0, 1, 0, 0), some (.getfield 22, 3, 5, 4), none, none, some (.iload_n 1, 1, 0, 0), some (.iaload, 1, 0, 0), some (.goto 9, 3, 40, 0)],
  [none, none, some (.aload_n 0, 1, 0, 0), some (.getfield 25, 3, 5, 5), none, none, some (.iload_n 1, 1, 0, 0), some (.iaload, 1, 0, 0), some (.ireturn, 1, 0, 0)]]
-- StrandBoxesModel.term(III)J
def ac_X5_term : am_C := [[some (.iload_n 1, 1, 0, 0), some (.invokestatic 169, 3, 121, 1), none, none, some (.ifCond .eq 19, 3, 23, 0), none, none, some (.iload_n 2, 1, 0, 0), some (.ifCond .lt 15, 3, 23, 0), none, none, some (.iload_n 3, 1, 0, 0), some (.i2l, 1, 0, 0), some (.lconst 0, 1, 0, 0), some (.ldc2_w 188, 3, 0, 2), none, none, some (.invokestatic 99, 3, 96, 3), none, none, some (.ifCond .ne 7, 3, 27, 0), none, none, some (.ldc2_w 190, 3, 1, 1000000000000000), none, none, some (.lreturn, 1, 2, 0), some (.bipush 40, 2, 0, 0), none, some (.iload_n 1, 1, 0, 0), some (.imul, 1, 0, 0), some (.iload_n 2, 1, 0, 0)],
  [some (.iadd, 1, 0, 0), some (.istore 4, 2, 0, 0), none, some (.iload_n 2, 1, 0, 0), some (.aload_n 0, 1, 0, 0), some (.getfield 25, 3, 5, 5), none, none, some (.iload_n 1, 1, 0, 0), some (.iaload, 1, 0, 0), some (.if_icmp .lt 9, 3, 51, 0), none, none, some (.ldc2_w 192, 3, 1, 1000000000000003), none, none, some (.goto 41, 3, 89, 0), none, none, some (.iload_n 3, 1, 0, 0), some (.ifCond .ne 14, 3, 66, 0), none, none, some (.aload_n 0, 1, 0, 0), some (.getfield 28, 3, 5, 6), none, none, some (.iload 4, 2, 0, 0), none, some (.iaload, 1, 0, 0), some (.i2l, 1, 0, 0), some (.goto 26, 3, 89, 0)],
  [none, none, some (.iload_n 3, 1, 0, 0), some (.iconst 1, 1, 0, 0), some (.if_icmp .ne 14, 3, 82, 0), none, none, some (.aload_n 0, 1, 0, 0), some (.getfield 31, 3, 5, 7), none, none, some (.iload 4, 2, 0, 0), none, some (.iaload, 1, 0, 0), some (.i2l, 1, 0, 0), some (.goto 10, 3, 89, 0), none, none, some (.aload_n 0, 1, 0, 0), some (.getfield 34, 3, 5, 8), none, none, some (.iload 4, 2, 0, 0), none, some (.laload, 1, 0, 0), some (.lreturn, 1, 2, 0)]]
-- StrandBoxesModel.same(II)I
def ac_X5_same : am_C := [[some (.iload_n 1, 1, 0, 0), some (.invokestatic 169, 3, 121, 1), none, none, some (.ifCond .eq 10, 3, 14, 0), none, none, some (.iload_n 2, 1, 0, 0), some (.invokestatic 169, 3, 121, 1), none, none, some (.ifCond .ne 5, 3, 16, 0), none, none, some (.iconst (-1), 1, 0, 0), some (.ireturn, 1, 0, 0), some (.aload_n 0, 1, 0, 0), some (.getfield 22, 3, 5, 4), none, none, some (.iload_n 1, 1, 0, 0), some (.iaload, 1, 0, 0), some (.aload_n 0, 1, 0, 0), some (.getfield 22, 3, 5, 4), none, none, some (.iload_n 2, 1, 0, 0), some (.iaload, 1, 0, 0), some (.if_icmp .ne 22, 3, 50, 0), none, none, some (.aload_n 0, 1, 0, 0)],
  [some (.getfield 25, 3, 5, 5), none, none, some (.iload_n 1, 1, 0, 0), some (.iaload, 1, 0, 0), some (.aload_n 0, 1, 0, 0), some (.getfield 25, 3, 5, 5), none, none, some (.iload_n 2, 1, 0, 0), some (.iaload, 1, 0, 0), some (.if_icmp .ne 7, 3, 50, 0), none, none, some (.iconst 1, 1, 0, 0), some (.goto 4, 3, 51, 0), none, none, some (.iconst 0, 1, 0, 0), some (.istore_n 3, 1, 0, 0), some (.iconst 0, 1, 0, 0), some (.istore 4, 2, 0, 0), none, some (.iload 4, 2, 0, 0), none, some (.aload_n 0, 1, 0, 0), some (.getfield 25, 3, 5, 5), none, none, some (.iload_n 1, 1, 0, 0), some (.iaload, 1, 0, 0), some (.if_icmp .ge 101, 3, 164, 0)],
  [none, none, some (.iload_n 3, 1, 0, 0), some (.ifCond .eq 97, 3, 164, 0), none, none, some (.aload_n 0, 1, 0, 0), some (.getfield 28, 3, 5, 6), none, none, some (.bipush 40, 2, 0, 0), none, some (.iload_n 1, 1, 0, 0), some (.imul, 1, 0, 0), some (.iload 4, 2, 0, 0), none, some (.iadd, 1, 0, 0), some (.iaload, 1, 0, 0), some (.aload_n 0, 1, 0, 0), some (.getfield 28, 3, 5, 6), none, none, some (.bipush 40, 2, 0, 0), none, some (.iload_n 2, 1, 0, 0), some (.imul, 1, 0, 0), some (.iload 4, 2, 0, 0), none, some (.iadd, 1, 0, 0), some (.iaload, 1, 0, 0), some (.if_icmp .ne 62, 3, 156, 0), none],
  [none, some (.aload_n 0, 1, 0, 0), some (.getfield 31, 3, 5, 7), none, none, some (.bipush 40, 2, 0, 0), none, some (.iload_n 1, 1, 0, 0), some (.imul, 1, 0, 0), some (.iload 4, 2, 0, 0), none, some (.iadd, 1, 0, 0), some (.iaload, 1, 0, 0), some (.aload_n 0, 1, 0, 0), some (.getfield 31, 3, 5, 7), none, none, some (.bipush 40, 2, 0, 0), none, some (.iload_n 2, 1, 0, 0), some (.imul, 1, 0, 0), some (.iload 4, 2, 0, 0), none, some (.iadd, 1, 0, 0), some (.iaload, 1, 0, 0), some (.if_icmp .ne 35, 3, 156, 0), none, none, some (.aload_n 0, 1, 0, 0), some (.getfield 34, 3, 5, 8), none, none],
  [some (.bipush 40, 2, 0, 0), none, some (.iload_n 1, 1, 0, 0), some (.imul, 1, 0, 0), some (.iload 4, 2, 0, 0), none, some (.iadd, 1, 0, 0), some (.laload, 1, 0, 0), some (.aload_n 0, 1, 0, 0), some (.getfield 34, 3, 5, 8), none, none, some (.bipush 40, 2, 0, 0), none, some (.iload_n 2, 1, 0, 0), some (.imul, 1, 0, 0), some (.iload 4, 2, 0, 0), none, some (.iadd, 1, 0, 0), some (.laload, 1, 0, 0), some (.lcmp, 1, 0, 0), some (.ifCond .ne 7, 3, 156, 0), none, none, some (.iconst 1, 1, 0, 0), some (.goto 4, 3, 157, 0), none, none, some (.iconst 0, 1, 0, 0), some (.istore_n 3, 1, 0, 0), some (.iinc 4 1, 3, 0, 0), none],
  [none, some (.goto (-106), 3, 55, 0), none, none, some (.iload_n 3, 1, 0, 0), some (.ifCond .eq 7, 3, 172, 0), none, none, some (.iconst 1, 1, 0, 0), some (.goto 4, 3, 173, 0), none, none, some (.iconst 0, 1, 0, 0), some (.ireturn, 1, 0, 0)]]
-- StrandBoxesModel.closed(II)J
def ac_X5_closed : am_C := [[some (.iload_n 1, 1, 0, 0), some (.invokestatic 169, 3, 121, 1), none, none, some (.ifCond .eq 15, 3, 19, 0), none, none, some (.iload_n 2, 1, 0, 0), some (.i2l, 1, 0, 0), some (.lconst 0, 1, 0, 0), some (.ldc2_w 194, 3, 0, 24), none, none, some (.invokestatic 99, 3, 96, 3), none, none, some (.ifCond .ne 5, 3, 21, 0), none, none, some (.lconst 0, 1, 0, 0), some (.lreturn, 1, 2, 0), some (.lconst 0, 1, 0, 0), some (.lstore_n 3, 1, 0, 0), some (.iconst 0, 1, 0, 0), some (.istore 5, 2, 0, 0), none, some (.iload 5, 2, 0, 0), none, some (.aload_n 0, 1, 0, 0), some (.getfield 25, 3, 5, 5), none, none],
  [some (.iload_n 1, 1, 0, 0), some (.iaload, 1, 0, 0), some (.if_icmp .ge 71, 3, 105, 0), none, none, some (.aload_n 0, 1, 0, 0), some (.getfield 31, 3, 5, 7), none, none, some (.bipush 40, 2, 0, 0), none, some (.iload_n 1, 1, 0, 0), some (.imul, 1, 0, 0), some (.iload 5, 2, 0, 0), none, some (.iadd, 1, 0, 0), some (.iaload, 1, 0, 0), some (.aload_n 0, 1, 0, 0), some (.aload_n 0, 1, 0, 0), some (.getfield 22, 3, 5, 4), none, none, some (.iload_n 1, 1, 0, 0), some (.iaload, 1, 0, 0), some (.aload_n 0, 1, 0, 0), some (.getfield 28, 3, 5, 6), none, none, some (.bipush 40, 2, 0, 0), none, some (.iload_n 1, 1, 0, 0), some (.imul, 1, 0, 0)],
  [some (.iload 5, 2, 0, 0), none, some (.iadd, 1, 0, 0), some (.iaload, 1, 0, 0), some (.invokevirtual 152, 3, 6106, 3), none, none, some (.iadd, 1, 0, 0), some (.istore 6, 2, 0, 0), none, some (.lload_n 3, 1, 0, 0), some (.iload 6, 2, 0, 0), none, some (.iload_n 2, 1, 0, 0), some (.if_icmp .ne 18, 3, 96, 0), none, none, some (.aload_n 0, 1, 0, 0), some (.getfield 34, 3, 5, 8), none, none, some (.bipush 40, 2, 0, 0), none, some (.iload_n 1, 1, 0, 0), some (.imul, 1, 0, 0), some (.iload 5, 2, 0, 0), none, some (.iadd, 1, 0, 0), some (.laload, 1, 0, 0), some (.goto 4, 3, 97, 0), none, none],
  [some (.lconst 0, 1, 0, 0), some (.ladd, 1, 0, 0), some (.lstore_n 3, 1, 0, 0), some (.iinc 5 1, 3, 0, 0), none, none, some (.goto (-76), 3, 26, 0), none, none, some (.lload_n 3, 1, 0, 0), some (.lreturn, 1, 2, 0)]]
-- StrandBoxesModel.isHalf(II[I)Z
def ac_X5_isHalf : am_C := [[some (.iconst 0, 1, 0, 0), some (.istore_n 3, 1, 0, 0), some (.iconst 1, 1, 0, 0), some (.istore 4, 2, 0, 0), none, some (.iconst 0, 1, 0, 0), some (.istore 5, 2, 0, 0), none, some (.iload 5, 2, 0, 0), none, some (.iload_n 0, 1, 0, 0), some (.if_icmp .ge 128, 3, 139, 0), none, none, some (.iload 4, 2, 0, 0), none, some (.ifCond .eq 123, 3, 139, 0), none, none, some (.aload_n 2, 1, 0, 0), some (.iload 5, 2, 0, 0), none, some (.iaload, 1, 0, 0), some (.istore 6, 2, 0, 0), none, some (.iload_n 3, 1, 0, 0), some (.iload 6, 2, 0, 0), none, some (.iload_n 0, 1, 0, 0), some (.if_icmp .ne 7, 3, 36, 0), none, none],
  [some (.iconst 1, 1, 0, 0), some (.goto 4, 3, 37, 0), none, none, some (.iconst 0, 1, 0, 0), some (.iadd, 1, 0, 0), some (.istore_n 3, 1, 0, 0), some (.iload 6, 2, 0, 0), none, some (.iload_n 0, 1, 0, 0), some (.if_icmp .eq 19, 3, 61, 0), none, none, some (.iload 6, 2, 0, 0), none, some (.iload 5, 2, 0, 0), none, some (.if_icmp .eq 16, 3, 65, 0), none, none, some (.aload_n 2, 1, 0, 0), some (.iload 6, 2, 0, 0), none, some (.iaload, 1, 0, 0), some (.iload 5, 2, 0, 0), none, some (.if_icmp .ne 7, 3, 65, 0), none, none, some (.iconst 1, 1, 0, 0), some (.goto 4, 3, 66, 0), none],
  [none, some (.iconst 0, 1, 0, 0), some (.istore 4, 2, 0, 0), none, some (.iconst 0, 1, 0, 0), some (.istore 7, 2, 0, 0), none, some (.iload 7, 2, 0, 0), none, some (.iload_n 0, 1, 0, 0), some (.if_icmp .ge 59, 3, 133, 0), none, none, some (.iload 4, 2, 0, 0), none, some (.ifCond .eq 54, 3, 133, 0), none, none, some (.iload 6, 2, 0, 0), none, some (.iload_n 0, 1, 0, 0), some (.if_icmp .eq 35, 3, 120, 0), none, none, some (.iload 5, 2, 0, 0), none, some (.iload 7, 2, 0, 0), none, some (.if_icmp .ge 28, 3, 120, 0), none, none, some (.iload 7, 2, 0, 0)],
  [none, some (.iload 6, 2, 0, 0), none, some (.if_icmp .ge 21, 3, 120, 0), none, none, some (.aload_n 2, 1, 0, 0), some (.iload 7, 2, 0, 0), none, some (.iaload, 1, 0, 0), some (.iload 5, 2, 0, 0), none, some (.if_icmp .le 16, 3, 124, 0), none, none, some (.aload_n 2, 1, 0, 0), some (.iload 7, 2, 0, 0), none, some (.iaload, 1, 0, 0), some (.iload 6, 2, 0, 0), none, some (.if_icmp .ge 7, 3, 124, 0), none, none, some (.iconst 1, 1, 0, 0), some (.goto 4, 3, 125, 0), none, none, some (.iconst 0, 1, 0, 0), some (.istore 4, 2, 0, 0), none, some (.iinc 7 1, 3, 0, 0)],
  [none, none, some (.goto (-59), 3, 71, 0), none, none, some (.iinc 5 1, 3, 0, 0), none, none, some (.goto (-128), 3, 8, 0), none, none, some (.iload 4, 2, 0, 0), none, some (.ifCond .eq 12, 3, 153, 0), none, none, some (.iload_n 3, 1, 0, 0), some (.iload_n 1, 1, 0, 0), some (.if_icmp .ne 7, 3, 153, 0), none, none, some (.iconst 1, 1, 0, 0), some (.goto 4, 3, 154, 0), none, none, some (.iconst 0, 1, 0, 0), some (.ireturn, 1, 1, 0)]]
-- StrandBoxesModel.lay(III[I)I
def ac_X5_lay : am_C := [[some (.iconst 0, 1, 0, 0), some (.istore 5, 2, 0, 0), none, some (.iconst 1, 1, 0, 0), some (.istore 6, 2, 0, 0), none, some (.iconst 0, 1, 0, 0), some (.istore 7, 2, 0, 0), none, some (.iload 7, 2, 0, 0), none, some (.iload_n 1, 1, 0, 0), some (.if_icmp .ge 17, 3, 29, 0), none, none, some (.iload 6, 2, 0, 0), none, some (.iload_n 1, 1, 0, 0), some (.iconst 1, 1, 0, 0), some (.iadd, 1, 0, 0), some (.imul, 1, 0, 0), some (.istore 6, 2, 0, 0), none, some (.iinc 7 1, 3, 0, 0), none, none, some (.goto (-17), 3, 9, 0), none, none, some (.iconst 0, 1, 0, 0), some (.istore 7, 2, 0, 0), none],
  [some (.iload 7, 2, 0, 0), none, some (.iload 6, 2, 0, 0), none, some (.if_icmp .ge 70, 3, 106, 0), none, none, some (.iload 7, 2, 0, 0), none, some (.istore 8, 2, 0, 0), none, some (.iload_n 1, 1, 0, 0), some (.iconst 1, 1, 0, 0), some (.isub, 1, 0, 0), some (.istore 9, 2, 0, 0), none, some (.iload 9, 2, 0, 0), none, some (.ifCond .lt 28, 3, 78, 0), none, none, some (.aload 4, 2, 0, 0), none, some (.iload 9, 2, 0, 0), none, some (.iload 8, 2, 0, 0), none, some (.iload_n 1, 1, 0, 0), some (.iconst 1, 1, 0, 0), some (.iadd, 1, 0, 0), some (.irem, 1, 0, 0), some (.iastore, 1, 0, 0)],
  [some (.iload 8, 2, 0, 0), none, some (.iload_n 1, 1, 0, 0), some (.iconst 1, 1, 0, 0), some (.iadd, 1, 0, 0), some (.idiv, 1, 0, 0), some (.istore 8, 2, 0, 0), none, some (.iinc 9 (-1), 3, 0, 0), none, none, some (.goto (-27), 3, 48, 0), none, none, some (.iload_n 1, 1, 0, 0), some (.iload_n 2, 1, 0, 0), some (.aload 4, 2, 0, 0), none, some (.invokestatic 196, 3, 133, 3), none, none, some (.ifCond .eq 15, 3, 100, 0), none, none, some (.iload 5, 2, 0, 0), none, some (.iload_n 3, 1, 0, 0), some (.if_icmp .ne 6, 3, 97, 0), none, none, some (.iload 5, 2, 0, 0), none],
  [some (.ireturn, 1, 0, 0), some (.iinc 5 1, 3, 0, 0), none, none, some (.iinc 7 1, 3, 0, 0), none, none, some (.goto (-71), 3, 32, 0), none, none, some (.iload 5, 2, 0, 0), none, some (.ireturn, 1, 0, 0)]]
-- StrandBoxesModel.areHalves(II)Z
def ac_X5_areHalves : am_C := [[some (.iload_n 0, 1, 0, 0), some (.invokestatic 103, 3, 97, 1), none, none, some (.ifCond .eq 18, 3, 22, 0), none, none, some (.iload_n 1, 1, 0, 0), some (.i2l, 1, 0, 0), some (.lconst 0, 1, 0, 0), some (.iload_n 0, 1, 0, 0), some (.i2l, 1, 0, 0), some (.invokestatic 99, 3, 96, 3), none, none, some (.ifCond .eq 7, 3, 22, 0), none, none, some (.iconst 1, 1, 0, 0), some (.goto 4, 3, 23, 0), none, none, some (.iconst 0, 1, 0, 0), some (.ireturn, 1, 1, 0)]]
-- StrandBoxesModel.halves(II)I
def ac_X5_halves : am_C := [[some (.iload_n 1, 1, 0, 0), some (.iload_n 2, 1, 0, 0), some (.invokestatic 200, 3, 135, 2), none, none, some (.ifCond .eq 17, 3, 22, 0), none, none, some (.aload_n 0, 1, 0, 0), some (.iload_n 1, 1, 0, 0), some (.iload_n 2, 1, 0, 0), some (.iconst (-1), 1, 0, 0), some (.aload_n 0, 1, 0, 0), some (.getfield 67, 3, 5, 21), none, none, some (.invokevirtual 203, 3, 6134, 5), none, none, some (.goto 4, 3, 23, 0), none, none, some (.iconst (-1), 1, 0, 0), some (.ireturn, 1, 0, 0)]]
-- StrandBoxesModel.half(IIII)I
def ac_X5_half : am_C := [[some (.iload_n 1, 1, 0, 0), some (.iload_n 2, 1, 0, 0), some (.invokestatic 200, 3, 135, 2), none, none, some (.ifCond .eq 21, 3, 26, 0), none, none, some (.iload_n 3, 1, 0, 0), some (.ifCond .lt 17, 3, 26, 0), none, none, some (.iload 4, 2, 0, 0), none, some (.i2l, 1, 0, 0), some (.lconst 0, 1, 0, 0), some (.iload_n 1, 1, 0, 0), some (.iconst 1, 1, 0, 0), some (.isub, 1, 0, 0), some (.i2l, 1, 0, 0), some (.invokestatic 99, 3, 96, 3), none, none, some (.ifCond .ne 5, 3, 28, 0), none, none, some (.iconst (-1), 1, 0, 0), some (.ireturn, 1, 0, 0), some (.iload_n 3, 1, 0, 0), some (.aload_n 0, 1, 0, 0), some (.iload_n 1, 1, 0, 0), some (.iload_n 2, 1, 0, 0)],
  [some (.iconst (-1), 1, 0, 0), some (.aload_n 0, 1, 0, 0), some (.getfield 67, 3, 5, 21), none, none, some (.invokevirtual 203, 3, 6134, 5), none, none, some (.if_icmp .lt 6, 3, 46, 0), none, none, some (.bipush (-4), 2, 0, 0), none, some (.ireturn, 1, 0, 0), some (.aload_n 0, 1, 0, 0), some (.iload_n 1, 1, 0, 0), some (.iload_n 2, 1, 0, 0), some (.iload_n 3, 1, 0, 0), some (.aload_n 0, 1, 0, 0), some (.getfield 67, 3, 5, 21), none, none, some (.invokevirtual 203, 3, 6134, 5), none, none, some (.istore 5, 2, 0, 0), none, some (.aload_n 0, 1, 0, 0), some (.getfield 67, 3, 5, 21), none, none, some (.iload 4, 2, 0, 0)],
  [none, some (.iaload, 1, 0, 0), some (.ireturn, 1, 0, 0)]]
-- StrandBoxesModel.formOf(I)I
def ac_X5_formOf : am_C := [[some (.iconst 0, 1, 0, 0), some (.istore_n 2, 1, 0, 0), some (.iload_n 2, 1, 0, 0), some (.iconst 4, 1, 0, 0), some (.if_icmp .ge 16, 3, 20, 0), none, none, some (.aload_n 0, 1, 0, 0), some (.getfield 52, 3, 5, 14), none, none, some (.iload_n 2, 1, 0, 0), some (.iconst 0, 1, 0, 0), some (.bastore, 1, 0, 0), some (.iinc 2 1, 3, 0, 0), none, none, some (.goto (-15), 3, 2, 0), none, none, some (.iconst 0, 1, 0, 0), some (.istore_n 2, 1, 0, 0), some (.iload_n 2, 1, 0, 0), some (.iload_n 1, 1, 0, 0), some (.if_icmp .ge 112, 3, 136, 0), none, none, some (.aload_n 0, 1, 0, 0), some (.getfield 67, 3, 5, 21), none, none, some (.iload_n 2, 1, 0, 0)],
  [some (.iaload, 1, 0, 0), some (.iload_n 1, 1, 0, 0), some (.if_icmp .ne 96, 3, 130, 0), none, none, some (.iload_n 2, 1, 0, 0), some (.istore_n 3, 1, 0, 0), some (.iconst 1, 1, 0, 0), some (.istore 4, 2, 0, 0), none, some (.iconst 1, 1, 0, 0), some (.istore 5, 2, 0, 0), none, some (.iload 5, 2, 0, 0), none, some (.ifCond .eq 68, 3, 115, 0), none, none, some (.aload_n 0, 1, 0, 0), some (.getfield 52, 3, 5, 14), none, none, some (.iload_n 3, 1, 0, 0), some (.iconst 1, 1, 0, 0), some (.bastore, 1, 0, 0), some (.iload 4, 2, 0, 0), none, some (.ifCond .eq 12, 3, 71, 0), none, none, some (.aload_n 0, 1, 0, 0), some (.getfield 70, 3, 5, 22)],
  [none, none, some (.iload_n 3, 1, 0, 0), some (.iaload, 1, 0, 0), some (.goto 9, 3, 77, 0), none, none, some (.aload_n 0, 1, 0, 0), some (.getfield 67, 3, 5, 21), none, none, some (.iload_n 3, 1, 0, 0), some (.iaload, 1, 0, 0), some (.istore 6, 2, 0, 0), none, some (.iload 6, 2, 0, 0), none, some (.iload_n 1, 1, 0, 0), some (.if_icmp .eq 7, 3, 89, 0), none, none, some (.iconst 1, 1, 0, 0), some (.goto 4, 3, 90, 0), none, none, some (.iconst 0, 1, 0, 0), some (.istore 5, 2, 0, 0), none, some (.iload 5, 2, 0, 0), none, some (.ifCond .eq 18, 3, 112, 0), none],
  [none, some (.iload 6, 2, 0, 0), none, some (.istore_n 3, 1, 0, 0), some (.iload 4, 2, 0, 0), none, some (.ifCond .ne 7, 3, 109, 0), none, none, some (.iconst 1, 1, 0, 0), some (.goto 4, 3, 110, 0), none, none, some (.iconst 0, 1, 0, 0), some (.istore 4, 2, 0, 0), none, some (.goto (-67), 3, 45, 0), none, none, some (.aload_n 0, 1, 0, 0), some (.getfield 52, 3, 5, 14), none, none, some (.iload_n 3, 1, 0, 0), some (.iconst 1, 1, 0, 0), some (.bastore, 1, 0, 0), some (.iload 4, 2, 0, 0), none, some (.ifCond .ne 6, 3, 130, 0), none, none, some (.bipush (-4), 2, 0, 0)],
  [none, some (.ireturn, 1, 0, 0), some (.iinc 2 1, 3, 0, 0), none, none, some (.goto (-111), 3, 22, 0), none, none, some (.iconst 0, 1, 0, 0), some (.istore_n 2, 1, 0, 0), some (.iload_n 2, 1, 0, 0), some (.iload_n 1, 1, 0, 0), some (.if_icmp .ge 31, 3, 171, 0), none, none, some (.aload_n 0, 1, 0, 0), some (.getfield 52, 3, 5, 14), none, none, some (.iload_n 2, 1, 0, 0), some (.baload, 1, 0, 0), some (.ifCond .ne 16, 3, 165, 0), none, none, some (.aload_n 0, 1, 0, 0), some (.getfield 70, 3, 5, 22), none, none, some (.iload_n 2, 1, 0, 0), some (.iaload, 1, 0, 0), some (.iload_n 1, 1, 0, 0), some (.if_icmp .ne 6, 3, 165, 0)],
  [none, none, some (.bipush (-4), 2, 0, 0), none, some (.ireturn, 1, 0, 0), some (.iinc 2 1, 3, 0, 0), none, none, some (.goto (-30), 3, 138, 0), none, none, some (.iconst 0, 1, 0, 0), some (.istore_n 2, 1, 0, 0), some (.iconst 0, 1, 0, 0), some (.istore_n 3, 1, 0, 0), some (.iload_n 3, 1, 0, 0), some (.iload_n 1, 1, 0, 0), some (.if_icmp .ge 82, 3, 259, 0), none, none, some (.aload_n 0, 1, 0, 0), some (.getfield 52, 3, 5, 14), none, none, some (.iload_n 3, 1, 0, 0), some (.baload, 1, 0, 0), some (.ifCond .ne 67, 3, 253, 0), none, none, some (.iinc 2 1, 3, 0, 0), none, none],
  [some (.iload_n 3, 1, 0, 0), some (.istore 4, 2, 0, 0), none, some (.iconst 1, 1, 0, 0), some (.istore 5, 2, 0, 0), none, some (.iload 5, 2, 0, 0), none, some (.ifCond .eq 53, 3, 253, 0), none, none, some (.aload_n 0, 1, 0, 0), some (.getfield 52, 3, 5, 14), none, none, some (.iload 4, 2, 0, 0), none, some (.iconst 1, 1, 0, 0), some (.bastore, 1, 0, 0), some (.aload_n 0, 1, 0, 0), some (.getfield 67, 3, 5, 21), none, none, some (.iload 4, 2, 0, 0), none, some (.iaload, 1, 0, 0), some (.istore 4, 2, 0, 0), none, some (.aload_n 0, 1, 0, 0), some (.getfield 52, 3, 5, 14), none, none],
  [some (.iload 4, 2, 0, 0), none, some (.iconst 1, 1, 0, 0), some (.bastore, 1, 0, 0), some (.aload_n 0, 1, 0, 0), some (.getfield 70, 3, 5, 22), none, none, some (.iload 4, 2, 0, 0), none, some (.iaload, 1, 0, 0), some (.istore 4, 2, 0, 0), none, some (.iload 4, 2, 0, 0), none, some (.iload_n 3, 1, 0, 0), some (.if_icmp .eq 7, 3, 247, 0), none, none, some (.iconst 1, 1, 0, 0), some (.goto 4, 3, 248, 0), none, none, some (.iconst 0, 1, 0, 0), some (.istore 5, 2, 0, 0), none, some (.goto (-52), 3, 198, 0), none, none, some (.iinc 3 1, 3, 0, 0), none, none],
  [some (.goto (-81), 3, 175, 0), none, none, some (.iload_n 2, 1, 0, 0), some (.ireturn, 1, 0, 0)]]
-- StrandBoxesModel.form(IIII)I
def ac_X5_form : am_C := [[some (.iload_n 1, 1, 0, 0), some (.iload_n 2, 1, 0, 0), some (.invokestatic 200, 3, 135, 2), none, none, some (.ifCond .ne 5, 3, 10, 0), none, none, some (.iconst (-1), 1, 0, 0), some (.ireturn, 1, 0, 0), some (.aload_n 0, 1, 0, 0), some (.iload_n 1, 1, 0, 0), some (.iload_n 2, 1, 0, 0), some (.iconst (-1), 1, 0, 0), some (.aload_n 0, 1, 0, 0), some (.getfield 67, 3, 5, 21), none, none, some (.invokevirtual 203, 3, 6134, 5), none, none, some (.istore 5, 2, 0, 0), none, some (.iload_n 3, 1, 0, 0), some (.i2l, 1, 0, 0), some (.lconst 0, 1, 0, 0), some (.iload 5, 2, 0, 0), none, some (.iconst 1, 1, 0, 0), some (.isub, 1, 0, 0), some (.i2l, 1, 0, 0), some (.invokestatic 99, 3, 96, 3)],
  [none, none, some (.ifCond .eq 18, 3, 52, 0), none, none, some (.iload 4, 2, 0, 0), none, some (.i2l, 1, 0, 0), some (.lconst 0, 1, 0, 0), some (.iload 5, 2, 0, 0), none, some (.iconst 1, 1, 0, 0), some (.isub, 1, 0, 0), some (.i2l, 1, 0, 0), some (.invokestatic 99, 3, 96, 3), none, none, some (.ifCond .ne 5, 3, 54, 0), none, none, some (.iconst (-1), 1, 0, 0), some (.ireturn, 1, 0, 0), some (.aload_n 0, 1, 0, 0), some (.iload_n 1, 1, 0, 0), some (.iload_n 2, 1, 0, 0), some (.iload_n 3, 1, 0, 0), some (.aload_n 0, 1, 0, 0), some (.getfield 67, 3, 5, 21), none, none, some (.invokevirtual 203, 3, 6134, 5), none],
  [none, some (.istore 6, 2, 0, 0), none, some (.aload_n 0, 1, 0, 0), some (.iload_n 1, 1, 0, 0), some (.iload_n 2, 1, 0, 0), some (.iload 4, 2, 0, 0), none, some (.aload_n 0, 1, 0, 0), some (.getfield 70, 3, 5, 22), none, none, some (.invokevirtual 203, 3, 6134, 5), none, none, some (.istore 7, 2, 0, 0), none, some (.aload_n 0, 1, 0, 0), some (.iload_n 1, 1, 0, 0), some (.invokevirtual 207, 3, 6138, 2), none, none, some (.ireturn, 1, 0, 0)]]
-- StrandBoxesModel.isPrime(I)Z
def ac_X5_isPrime : am_C := [[some (.iload_n 0, 1, 0, 0), some (.iconst 1, 1, 0, 0), some (.if_icmp .le 7, 3, 9, 0), none, none, some (.iconst 1, 1, 0, 0), some (.goto 4, 3, 10, 0), none, none, some (.iconst 0, 1, 0, 0), some (.istore_n 1, 1, 0, 0), some (.iconst 2, 1, 0, 0), some (.istore_n 2, 1, 0, 0), some (.iload_n 2, 1, 0, 0), some (.iload_n 2, 1, 0, 0), some (.imul, 1, 0, 0), some (.iload_n 0, 1, 0, 0), some (.if_icmp .gt 25, 3, 42, 0), none, none, some (.iload_n 1, 1, 0, 0), some (.ifCond .eq 21, 3, 42, 0), none, none, some (.iload_n 0, 1, 0, 0), some (.iload_n 2, 1, 0, 0), some (.irem, 1, 0, 0), some (.ifCond .eq 7, 3, 34, 0), none, none, some (.iconst 1, 1, 0, 0), some (.goto 4, 3, 35, 0)],
  [none, none, some (.iconst 0, 1, 0, 0), some (.istore_n 1, 1, 0, 0), some (.iinc 2 1, 3, 0, 0), none, none, some (.goto (-26), 3, 13, 0), none, none, some (.iload_n 1, 1, 0, 0), some (.ireturn, 1, 1, 0)]]
-- StrandBoxesModel.inverse(II)I
def ac_X5_inverse : am_C := [[some (.iconst 1, 1, 0, 0), some (.istore_n 2, 1, 0, 0), some (.iload_n 0, 1, 0, 0), some (.iload_n 2, 1, 0, 0), some (.imul, 1, 0, 0), some (.iload_n 1, 1, 0, 0), some (.irem, 1, 0, 0), some (.iconst 1, 1, 0, 0), some (.if_icmp .eq 9, 3, 17, 0), none, none, some (.iinc 2 1, 3, 0, 0), none, none, some (.goto (-12), 3, 2, 0), none, none, some (.iload_n 2, 1, 0, 0), some (.ireturn, 1, 0, 0)]]
-- StrandBoxesModel.free(IIII)I
def ac_X5_free : am_C := [[some (.iload_n 1, 1, 0, 0), some (.iload_n 2, 1, 0, 0), some (.invokestatic 200, 3, 135, 2), none, none, some (.ifCond .eq 40, 3, 45, 0), none, none, some (.iload_n 3, 1, 0, 0), some (.i2l, 1, 0, 0), some (.ldc2_w 210, 3, 1, 999), none, none, some (.ldc2_w 212, 3, 0, 1000), none, none, some (.invokestatic 99, 3, 96, 3), none, none, some (.ifCond .eq 26, 3, 45, 0), none, none, some (.iload 4, 2, 0, 0), none, some (.i2l, 1, 0, 0), some (.ldc2_w 188, 3, 0, 2), none, none, some (.ldc2_w 214, 3, 0, 997), none, none, some (.invokestatic 99, 3, 96, 3)],
  [none, none, some (.ifCond .eq 11, 3, 45, 0), none, none, some (.iload 4, 2, 0, 0), none, some (.invokestatic 216, 3, 140, 1), none, none, some (.ifCond .ne 5, 3, 47, 0), none, none, some (.iconst (-1), 1, 0, 0), some (.ireturn, 1, 0, 0), some (.aload_n 0, 1, 0, 0), some (.iload_n 1, 1, 0, 0), some (.iload_n 2, 1, 0, 0), some (.iconst (-1), 1, 0, 0), some (.aload_n 0, 1, 0, 0), some (.getfield 67, 3, 5, 21), none, none, some (.invokevirtual 203, 3, 6134, 5), none, none, some (.istore 5, 2, 0, 0), none, some (.iload_n 3, 1, 0, 0), some (.iload 4, 2, 0, 0), none, some (.irem, 1, 0, 0)],
  [some (.iload 4, 2, 0, 0), none, some (.iadd, 1, 0, 0), some (.iload 4, 2, 0, 0), none, some (.irem, 1, 0, 0), some (.istore 6, 2, 0, 0), none, some (.iconst 0, 1, 0, 0), some (.istore 7, 2, 0, 0), none, some (.iload 7, 2, 0, 0), none, some (.iload 5, 2, 0, 0), none, some (.if_icmp .ge 95, 3, 174, 0), none, none, some (.iconst 0, 1, 0, 0), some (.istore 8, 2, 0, 0), none, some (.iload 8, 2, 0, 0), none, some (.iload 5, 2, 0, 0), none, some (.if_icmp .ge 79, 3, 168, 0), none, none, some (.aload_n 0, 1, 0, 0), some (.iload_n 1, 1, 0, 0), some (.iload_n 2, 1, 0, 0), some (.iload 7, 2, 0, 0)],
  [none, some (.iload 8, 2, 0, 0), none, some (.invokevirtual 219, 3, 6139, 5), none, none, some (.istore 9, 2, 0, 0), none, some (.iload 9, 2, 0, 0), none, some (.bipush (-4), 2, 0, 0), none, some (.if_icmp .ne 7, 3, 115, 0), none, none, some (.iconst 0, 1, 0, 0), some (.goto 7, 3, 119, 0), none, none, some (.iconst 1, 1, 0, 0), some (.iload 4, 2, 0, 0), none, some (.irem, 1, 0, 0), some (.istore 10, 2, 0, 0), none, some (.iconst 0, 1, 0, 0), some (.istore 11, 2, 0, 0), none, some (.iload 11, 2, 0, 0), none, some (.iload 9, 2, 0, 0), none],
  [some (.if_icmp .ge 19, 3, 147, 0), none, none, some (.iload 10, 2, 0, 0), none, some (.iload 6, 2, 0, 0), none, some (.imul, 1, 0, 0), some (.iload 4, 2, 0, 0), none, some (.irem, 1, 0, 0), some (.istore 10, 2, 0, 0), none, some (.iinc 11 1, 3, 0, 0), none, none, some (.goto (-20), 3, 124, 0), none, none, some (.aload_n 0, 1, 0, 0), some (.getfield 73, 3, 5, 23), none, none, some (.bipush 6, 2, 0, 0), none, some (.iload 7, 2, 0, 0), none, some (.imul, 1, 0, 0), some (.iload 8, 2, 0, 0), none, some (.iadd, 1, 0, 0), some (.iload 10, 2, 0, 0)],
  [none, some (.iastore, 1, 0, 0), some (.iinc 8 1, 3, 0, 0), none, none, some (.goto (-80), 3, 85, 0), none, none, some (.iinc 7 1, 3, 0, 0), none, none, some (.goto (-96), 3, 75, 0), none, none, some (.iconst 0, 1, 0, 0), some (.istore 7, 2, 0, 0), none, some (.iconst 0, 1, 0, 0), some (.istore 8, 2, 0, 0), none, some (.iload 8, 2, 0, 0), none, some (.iload 5, 2, 0, 0), none, some (.if_icmp .ge 66, 3, 250, 0), none, none, some (.iload 7, 2, 0, 0), none, some (.istore 9, 2, 0, 0), none, some (.iload 9, 2, 0, 0)],
  [none, some (.iload 5, 2, 0, 0), none, some (.if_icmp .ge 25, 3, 220, 0), none, none, some (.aload_n 0, 1, 0, 0), some (.getfield 73, 3, 5, 23), none, none, some (.bipush 6, 2, 0, 0), none, some (.iload 9, 2, 0, 0), none, some (.imul, 1, 0, 0), some (.iload 8, 2, 0, 0), none, some (.iadd, 1, 0, 0), some (.iaload, 1, 0, 0), some (.ifCond .ne 9, 3, 220, 0), none, none, some (.iinc 9 1, 3, 0, 0), none, none, some (.goto (-26), 3, 191, 0), none, none, some (.iload 9, 2, 0, 0), none, some (.iload 5, 2, 0, 0), none],
  [some (.if_icmp .ge 20, 3, 244, 0), none, none, some (.aload_n 0, 1, 0, 0), some (.iload 5, 2, 0, 0), none, some (.iload 7, 2, 0, 0), none, some (.iload 9, 2, 0, 0), none, some (.iload 8, 2, 0, 0), none, some (.iload 4, 2, 0, 0), none, some (.invokevirtual 222, 3, 6143, 6), none, none, some (.iinc 7 1, 3, 0, 0), none, none, some (.iinc 8 1, 3, 0, 0), none, none, some (.goto (-67), 3, 180, 0), none, none, some (.iload 7, 2, 0, 0), none, some (.ireturn, 1, 0, 0)]]
-- StrandBoxesModel.reduce(IIIII)V
def ac_X5_reduce : am_C := [[some (.iconst 0, 1, 0, 0), some (.istore 6, 2, 0, 0), none, some (.iload 6, 2, 0, 0), none, some (.iload_n 1, 1, 0, 0), some (.if_icmp .ge 61, 3, 67, 0), none, none, some (.aload_n 0, 1, 0, 0), some (.getfield 73, 3, 5, 23), none, none, some (.bipush 6, 2, 0, 0), none, some (.iload_n 2, 1, 0, 0), some (.imul, 1, 0, 0), some (.iload 6, 2, 0, 0), none, some (.iadd, 1, 0, 0), some (.iaload, 1, 0, 0), some (.istore 7, 2, 0, 0), none, some (.aload_n 0, 1, 0, 0), some (.getfield 73, 3, 5, 23), none, none, some (.bipush 6, 2, 0, 0), none, some (.iload_n 2, 1, 0, 0), some (.imul, 1, 0, 0), some (.iload 6, 2, 0, 0)],
  [none, some (.iadd, 1, 0, 0), some (.aload_n 0, 1, 0, 0), some (.getfield 73, 3, 5, 23), none, none, some (.bipush 6, 2, 0, 0), none, some (.iload_n 3, 1, 0, 0), some (.imul, 1, 0, 0), some (.iload 6, 2, 0, 0), none, some (.iadd, 1, 0, 0), some (.iaload, 1, 0, 0), some (.iastore, 1, 0, 0), some (.aload_n 0, 1, 0, 0), some (.getfield 73, 3, 5, 23), none, none, some (.bipush 6, 2, 0, 0), none, some (.iload_n 3, 1, 0, 0), some (.imul, 1, 0, 0), some (.iload 6, 2, 0, 0), none, some (.iadd, 1, 0, 0), some (.iload 7, 2, 0, 0), none, some (.iastore, 1, 0, 0), some (.iinc 6 1, 3, 0, 0), none, none],
  [some (.goto (-61), 3, 3, 0), none, none, some (.aload_n 0, 1, 0, 0), some (.getfield 73, 3, 5, 23), none, none, some (.bipush 6, 2, 0, 0), none, some (.iload_n 2, 1, 0, 0), some (.imul, 1, 0, 0), some (.iload 4, 2, 0, 0), none, some (.iadd, 1, 0, 0), some (.iaload, 1, 0, 0), some (.iload 5, 2, 0, 0), none, some (.invokestatic 226, 3, 141, 2), none, none, some (.istore 6, 2, 0, 0), none, some (.iload_n 2, 1, 0, 0), some (.iconst 1, 1, 0, 0), some (.iadd, 1, 0, 0), some (.istore 7, 2, 0, 0), none, some (.iload 7, 2, 0, 0), none, some (.iload_n 1, 1, 0, 0), some (.if_icmp .ge 93, 3, 187, 0), none],
  [none, some (.aload_n 0, 1, 0, 0), some (.getfield 73, 3, 5, 23), none, none, some (.bipush 6, 2, 0, 0), none, some (.iload 7, 2, 0, 0), none, some (.imul, 1, 0, 0), some (.iload 4, 2, 0, 0), none, some (.iadd, 1, 0, 0), some (.iaload, 1, 0, 0), some (.iload 6, 2, 0, 0), none, some (.imul, 1, 0, 0), some (.iload 5, 2, 0, 0), none, some (.irem, 1, 0, 0), some (.istore 8, 2, 0, 0), none, some (.iconst 0, 1, 0, 0), some (.istore 9, 2, 0, 0), none, some (.iload 9, 2, 0, 0), none, some (.iload_n 1, 1, 0, 0), some (.if_icmp .ge 57, 3, 181, 0), none, none, some (.aload_n 0, 1, 0, 0)],
  [some (.getfield 73, 3, 5, 23), none, none, some (.bipush 6, 2, 0, 0), none, some (.iload 7, 2, 0, 0), none, some (.imul, 1, 0, 0), some (.iload 9, 2, 0, 0), none, some (.iadd, 1, 0, 0), some (.aload_n 0, 1, 0, 0), some (.getfield 73, 3, 5, 23), none, none, some (.bipush 6, 2, 0, 0), none, some (.iload 7, 2, 0, 0), none, some (.imul, 1, 0, 0), some (.iload 9, 2, 0, 0), none, some (.iadd, 1, 0, 0), some (.iaload, 1, 0, 0), some (.iload 5, 2, 0, 0), none, some (.iload 8, 2, 0, 0), none, some (.isub, 1, 0, 0), some (.aload_n 0, 1, 0, 0), some (.getfield 73, 3, 5, 23), none],
  [none, some (.bipush 6, 2, 0, 0), none, some (.iload_n 2, 1, 0, 0), some (.imul, 1, 0, 0), some (.iload 9, 2, 0, 0), none, some (.iadd, 1, 0, 0), some (.iaload, 1, 0, 0), some (.imul, 1, 0, 0), some (.iadd, 1, 0, 0), some (.iload 5, 2, 0, 0), none, some (.irem, 1, 0, 0), some (.iastore, 1, 0, 0), some (.iinc 9 1, 3, 0, 0), none, none, some (.goto (-57), 3, 121, 0), none, none, some (.iinc 7 1, 3, 0, 0), none, none, some (.goto (-93), 3, 91, 0), none, none, some (.return_, 1, 0, 0)]]
-- StrandBoxesModel.row(I)I
def ac_X5_row : am_C := [[some (.iload_n 1, 1, 0, 0), some (.i2l, 1, 0, 0), some (.ldc2_w 188, 3, 0, 2), none, none, some (.ldc2_w 97, 3, 0, 4), none, none, some (.invokestatic 99, 3, 96, 3), none, none, some (.ifCond .ne 5, 3, 16, 0), none, none, some (.iconst (-1), 1, 0, 0), some (.ireturn, 1, 0, 0), some (.aload_n 0, 1, 0, 0), some (.iload_n 1, 1, 0, 0), some (.putfield 38, 3, 5, 9), none, none, some (.aload_n 0, 1, 0, 0), some (.iconst 0, 1, 0, 0), some (.putfield 229, 3, 5, 10), none, none, some (.iconst 0, 1, 0, 0), some (.ireturn, 1, 0, 0)]]
-- StrandBoxesModel.cross(I)I
def ac_X5_cross : am_C := [[some (.iload_n 1, 1, 0, 0), some (.ifCond .ge 8, 3, 9, 0), none, none, some (.iload_n 1, 1, 0, 0), some (.ineg, 1, 0, 0), some (.goto 4, 3, 10, 0), none, none, some (.iload_n 1, 1, 0, 0), some (.istore_n 2, 1, 0, 0), some (.iload_n 2, 1, 0, 0), some (.i2l, 1, 0, 0), some (.lconst 1, 1, 0, 0), some (.aload_n 0, 1, 0, 0), some (.getfield 38, 3, 5, 9), none, none, some (.iconst 1, 1, 0, 0), some (.isub, 1, 0, 0), some (.i2l, 1, 0, 0), some (.invokestatic 99, 3, 96, 3), none, none, some (.ifCond .ne 5, 3, 29, 0), none, none, some (.iconst (-1), 1, 0, 0), some (.ireturn, 1, 0, 0), some (.aload_n 0, 1, 0, 0), some (.getfield 229, 3, 5, 10), none],
  [none, some (.bipush 8, 2, 0, 0), none, some (.if_icmp .ne 6, 3, 41, 0), none, none, some (.bipush (-3), 2, 0, 0), none, some (.ireturn, 1, 0, 0), some (.aload_n 0, 1, 0, 0), some (.getfield 42, 3, 5, 11), none, none, some (.aload_n 0, 1, 0, 0), some (.getfield 229, 3, 5, 10), none, none, some (.iload_n 1, 1, 0, 0), some (.iastore, 1, 0, 0), some (.aload_n 0, 1, 0, 0), some (.dup, 1, 0, 0), some (.getfield 229, 3, 5, 10), none, none, some (.iconst 1, 1, 0, 0), some (.iadd, 1, 0, 0), some (.putfield 229, 3, 5, 10), none, none, some (.aload_n 0, 1, 0, 0), some (.getfield 229, 3, 5, 10), none],
  [none, some (.ireturn, 1, 0, 0)]]
-- StrandBoxesModel.back()I
def ac_X5_back : am_C := [[some (.aload_n 0, 1, 0, 0), some (.getfield 229, 3, 5, 10), none, none, some (.ifCond .ne 6, 3, 10, 0), none, none, some (.bipush (-2), 2, 0, 0), none, some (.ireturn, 1, 0, 0), some (.aload_n 0, 1, 0, 0), some (.dup, 1, 0, 0), some (.getfield 229, 3, 5, 10), none, none, some (.iconst 1, 1, 0, 0), some (.isub, 1, 0, 0), some (.putfield 229, 3, 5, 10), none, none, some (.aload_n 0, 1, 0, 0), some (.getfield 229, 3, 5, 10), none, none, some (.ireturn, 1, 0, 0)]]
-- StrandBoxesModel.addState(I)V
def ac_X5_addState : am_C := [[some (.aload_n 0, 1, 0, 0), some (.getfield 38, 3, 5, 9), none, none, some (.istore_n 2, 1, 0, 0), some (.aload_n 0, 1, 0, 0), some (.iload_n 2, 1, 0, 0), some (.iconst 0, 1, 0, 0), some (.invokevirtual 126, 3, 6108, 3), none, none, some (.istore_n 3, 1, 0, 0), some (.iconst 0, 1, 0, 0), some (.istore 4, 2, 0, 0), none, some (.iconst 0, 1, 0, 0), some (.istore 5, 2, 0, 0), none, some (.iconst 0, 1, 0, 0), some (.istore 6, 2, 0, 0), none, some (.iload 6, 2, 0, 0), none, some (.aload_n 0, 1, 0, 0), some (.getfield 229, 3, 5, 10), none, none, some (.if_icmp .ge 118, 3, 145, 0), none, none, some (.iload_n 1, 1, 0, 0), some (.iload 6, 2, 0, 0)],
  [none, some (.ishr, 1, 0, 0), some (.iconst 1, 1, 0, 0), some (.iand, 1, 0, 0), some (.iconst 1, 1, 0, 0), some (.if_icmp .ne 7, 3, 44, 0), none, none, some (.iconst 1, 1, 0, 0), some (.goto 4, 3, 45, 0), none, none, some (.iconst 0, 1, 0, 0), some (.istore 7, 2, 0, 0), none, some (.aload_n 0, 1, 0, 0), some (.getfield 42, 3, 5, 11), none, none, some (.iload 6, 2, 0, 0), none, some (.iaload, 1, 0, 0), some (.ifCond .ge 14, 3, 68, 0), none, none, some (.aload_n 0, 1, 0, 0), some (.getfield 42, 3, 5, 11), none, none, some (.iload 6, 2, 0, 0), none, some (.iaload, 1, 0, 0)],
  [some (.ineg, 1, 0, 0), some (.goto 10, 3, 75, 0), none, none, some (.aload_n 0, 1, 0, 0), some (.getfield 42, 3, 5, 11), none, none, some (.iload 6, 2, 0, 0), none, some (.iaload, 1, 0, 0), some (.istore 8, 2, 0, 0), none, some (.iload 5, 2, 0, 0), none, some (.iload 7, 2, 0, 0), none, some (.aload_n 0, 1, 0, 0), some (.getfield 42, 3, 5, 11), none, none, some (.iload 6, 2, 0, 0), none, some (.iaload, 1, 0, 0), some (.ifCond .ge 7, 3, 95, 0), none, none, some (.iconst 1, 1, 0, 0), some (.goto 4, 3, 96, 0), none, none, some (.iconst 0, 1, 0, 0)],
  [some (.if_icmp .ne 7, 3, 103, 0), none, none, some (.iconst 1, 1, 0, 0), some (.goto 4, 3, 104, 0), none, none, some (.iconst (-1), 1, 0, 0), some (.iadd, 1, 0, 0), some (.istore 5, 2, 0, 0), none, some (.iload 7, 2, 0, 0), none, some (.ifCond .eq 30, 3, 139, 0), none, none, some (.aload_n 0, 1, 0, 0), some (.iload_n 2, 1, 0, 0), some (.iload 8, 2, 0, 0), none, some (.invokevirtual 126, 3, 6108, 3), none, none, some (.istore 9, 2, 0, 0), none, some (.aload_n 0, 1, 0, 0), some (.iload_n 2, 1, 0, 0), some (.iload_n 3, 1, 0, 0), some (.iload 9, 2, 0, 0), none, some (.invokevirtual 133, 3, 6105, 4), none],
  [none, some (.istore_n 3, 1, 0, 0), some (.iload 4, 2, 0, 0), none, some (.aload_n 0, 1, 0, 0), some (.getfield 118, 3, 5, 15), none, none, some (.iadd, 1, 0, 0), some (.istore 4, 2, 0, 0), none, some (.iinc 6 1, 3, 0, 0), none, none, some (.goto (-121), 3, 21, 0), none, none, some (.iload 4, 2, 0, 0), none, some (.aload_n 0, 1, 0, 0), some (.iload_n 2, 1, 0, 0), some (.iload_n 3, 1, 0, 0), some (.invokevirtual 152, 3, 6106, 3), none, none, some (.iadd, 1, 0, 0), some (.istore 4, 2, 0, 0), none, some (.iconst 0, 1, 0, 0), some (.istore 6, 2, 0, 0), none, some (.iload 6, 2, 0, 0)],
  [none, some (.sipush 201, 3, 0, 0), none, none, some (.if_icmp .ge 31, 3, 195, 0), none, none, some (.aload_n 0, 1, 0, 0), some (.getfield 79, 3, 5, 25), none, none, some (.iload 6, 2, 0, 0), none, some (.iload 6, 2, 0, 0), none, some (.bipush 100, 2, 0, 0), none, some (.iload 5, 2, 0, 0), none, some (.iadd, 1, 0, 0), some (.if_icmp .ne 7, 3, 187, 0), none, none, some (.iconst 1, 1, 0, 0), some (.goto 4, 3, 188, 0), none, none, some (.iconst 0, 1, 0, 0), some (.iastore, 1, 0, 0), some (.iinc 6 1, 3, 0, 0), none, none],
  [some (.goto (-33), 3, 159, 0), none, none, some (.iconst 1, 1, 0, 0), some (.istore 6, 2, 0, 0), none, some (.iload 6, 2, 0, 0), none, some (.iload 4, 2, 0, 0), none, some (.if_icmp .ge 116, 3, 318, 0), none, none, some (.iconst 0, 1, 0, 0), some (.istore 7, 2, 0, 0), none, some (.iload 7, 2, 0, 0), none, some (.sipush 201, 3, 0, 0), none, none, some (.if_icmp .ge 68, 3, 281, 0), none, none, some (.iload 7, 2, 0, 0), none, some (.iconst 2, 1, 0, 0), some (.if_icmp .lt 15, 3, 234, 0), none, none, some (.aload_n 0, 1, 0, 0), some (.getfield 79, 3, 5, 25)],
  [none, none, some (.iload 7, 2, 0, 0), none, some (.iconst 2, 1, 0, 0), some (.isub, 1, 0, 0), some (.iaload, 1, 0, 0), some (.goto 4, 3, 235, 0), none, none, some (.iconst 0, 1, 0, 0), some (.istore 8, 2, 0, 0), none, some (.iload 7, 2, 0, 0), none, some (.iconst 2, 1, 0, 0), some (.iadd, 1, 0, 0), some (.sipush 201, 3, 0, 0), none, none, some (.if_icmp .ge 15, 3, 259, 0), none, none, some (.aload_n 0, 1, 0, 0), some (.getfield 79, 3, 5, 25), none, none, some (.iload 7, 2, 0, 0), none, some (.iconst 2, 1, 0, 0), some (.iadd, 1, 0, 0), some (.iaload, 1, 0, 0)],
  [some (.goto 4, 3, 260, 0), none, none, some (.iconst 0, 1, 0, 0), some (.istore 9, 2, 0, 0), none, some (.aload_n 0, 1, 0, 0), some (.getfield 82, 3, 5, 26), none, none, some (.iload 7, 2, 0, 0), none, some (.iload 8, 2, 0, 0), none, some (.ineg, 1, 0, 0), some (.iload 9, 2, 0, 0), none, some (.isub, 1, 0, 0), some (.iastore, 1, 0, 0), some (.iinc 7 1, 3, 0, 0), none, none, some (.goto (-70), 3, 208, 0), none, none, some (.iconst 0, 1, 0, 0), some (.istore 7, 2, 0, 0), none, some (.iload 7, 2, 0, 0), none, some (.sipush 201, 3, 0, 0), none],
  [none, some (.if_icmp .ge 23, 3, 312, 0), none, none, some (.aload_n 0, 1, 0, 0), some (.getfield 79, 3, 5, 25), none, none, some (.iload 7, 2, 0, 0), none, some (.aload_n 0, 1, 0, 0), some (.getfield 82, 3, 5, 26), none, none, some (.iload 7, 2, 0, 0), none, some (.iaload, 1, 0, 0), some (.iastore, 1, 0, 0), some (.iinc 7 1, 3, 0, 0), none, none, some (.goto (-25), 3, 284, 0), none, none, some (.iinc 6 1, 3, 0, 0), none, none, some (.goto (-117), 3, 198, 0), none, none, some (.iconst 0, 1, 0, 0), some (.istore 6, 2, 0, 0)],
  [none, some (.iload 6, 2, 0, 0), none, some (.sipush 201, 3, 0, 0), none, none, some (.if_icmp .ge 26, 3, 352, 0), none, none, some (.aload_n 0, 1, 0, 0), some (.getfield 76, 3, 5, 24), none, none, some (.iload 6, 2, 0, 0), none, some (.dup2, 1, 0, 0), some (.iaload, 1, 0, 0), some (.aload_n 0, 1, 0, 0), some (.getfield 79, 3, 5, 25), none, none, some (.iload 6, 2, 0, 0), none, some (.iaload, 1, 0, 0), some (.iadd, 1, 0, 0), some (.iastore, 1, 0, 0), some (.iinc 6 1, 3, 0, 0), none, none, some (.goto (-28), 3, 321, 0), none, none],
  [some (.return_, 1, 0, 0)]]
-- StrandBoxesModel.power(I)I
def ac_X5_power : am_C := [[some (.iload_n 1, 1, 0, 0), some (.i2l, 1, 0, 0), some (.ldc2_w 232, 3, 1, 39), none, none, some (.ldc2_w 234, 3, 0, 40), none, none, some (.invokestatic 99, 3, 96, 3), none, none, some (.ifCond .ne 6, 3, 17, 0), none, none, some (.ldc 236, 2, 1, 999999), none, some (.ireturn, 1, 0, 0), some (.iconst 0, 1, 0, 0), some (.istore_n 2, 1, 0, 0), some (.iload_n 2, 1, 0, 0), some (.sipush 201, 3, 0, 0), none, none, some (.if_icmp .ge 16, 3, 39, 0), none, none, some (.aload_n 0, 1, 0, 0), some (.getfield 76, 3, 5, 24), none, none, some (.iload_n 2, 1, 0, 0), some (.iconst 0, 1, 0, 0)],
  [some (.iastore, 1, 0, 0), some (.iinc 2 1, 3, 0, 0), none, none, some (.goto (-17), 3, 19, 0), none, none, some (.iconst 0, 1, 0, 0), some (.istore_n 2, 1, 0, 0), some (.iload_n 2, 1, 0, 0), some (.iconst 1, 1, 0, 0), some (.aload_n 0, 1, 0, 0), some (.getfield 229, 3, 5, 10), none, none, some (.ishl, 1, 0, 0), some (.if_icmp .ge 14, 3, 62, 0), none, none, some (.aload_n 0, 1, 0, 0), some (.iload_n 2, 1, 0, 0), some (.invokevirtual 237, 3, 6147, 2), none, none, some (.iinc 2 1, 3, 0, 0), none, none, some (.goto (-18), 3, 41, 0), none, none, some (.aload_n 0, 1, 0, 0), some (.getfield 76, 3, 5, 24)],
  [none, none, some (.bipush 100, 2, 0, 0), none, some (.iload_n 1, 1, 0, 0), some (.iadd, 1, 0, 0), some (.iaload, 1, 0, 0), some (.ireturn, 1, 0, 0)]]
-- RJ9.floorMod(II)I
def ac_J9_floorMod_7cf53 : am_C := [[some (.iload_n 0, 1, 0, 0), some (.iload_n 1, 1, 0, 0), some (.irem, 1, 0, 0), some (.istore_n 2, 1, 0, 0), some (.iload_n 0, 1, 0, 0), some (.iload_n 1, 1, 0, 0), some (.ixor, 1, 0, 0), some (.ifCond .ge 11, 3, 18, 0), none, none, some (.iload_n 2, 1, 0, 0), some (.ifCond .eq 7, 3, 18, 0), none, none, some (.iload_n 2, 1, 0, 0), some (.iload_n 1, 1, 0, 0), some (.iadd, 1, 0, 0), some (.ireturn, 1, 0, 0), some (.iload_n 2, 1, 0, 0), some (.ireturn, 1, 0, 0)]]
-- RJ9.abs(I)I
def ac_J9_abs_0f7a4 : am_C := [[some (.iload_n 0, 1, 0, 0), some (.ifCond .ge 8, 3, 9, 0), none, none, some (.iload_n 0, 1, 0, 0), some (.ineg, 1, 0, 0), some (.goto 4, 3, 10, 0), none, none, some (.iload_n 0, 1, 0, 0), some (.ireturn, 1, 0, 0)]]
-- RJ9.abs(J)J
def ac_J9_abs_067f4 : am_C := [[some (.lload_n 0, 1, 0, 0), some (.lconst 0, 1, 0, 0), some (.lcmp, 1, 0, 0), some (.ifCond .ge 8, 3, 11, 0), none, none, some (.lload_n 0, 1, 0, 0), some (.lneg, 1, 0, 0), some (.goto 4, 3, 12, 0), none, none, some (.lload_n 0, 1, 0, 0), some (.lreturn, 1, 2, 0)]]
-- RJ9.min(II)I
def ac_J9_min_7cf53 : am_C := [[some (.iload_n 0, 1, 0, 0), some (.iload_n 1, 1, 0, 0), some (.if_icmp .gt 7, 3, 9, 0), none, none, some (.iload_n 0, 1, 0, 0), some (.goto 4, 3, 10, 0), none, none, some (.iload_n 1, 1, 0, 0), some (.ireturn, 1, 0, 0)]]
/-- kinds of fields, by class and place -/
def ac_ft (x y : Nat) : Nat := ([[0, 0, 0, 0, 3, 3, 3, 3, 3, 3, 3], [0, 0, 3, 3, 1], [0, 3, 3, 3, 3, 3, 0], [0, 0, 3, 3, 3], [3, 3, 3, 3, 3], [3, 3, 3, 3, 3, 3, 3, 3, 3, 0, 0, 3, 3, 3, 3, 0, 3, 0, 3, 3, 3, 3, 3, 3, 3, 3, 3]].getD x []).getD y 0
def ac_L : List (am_C × Nat) := [(ac_X0_init, 3),
  (ac_X0_countPairings, 3),
  (ac_X0_listPairings, 3),
  (ac_X0_pairBy, 6),
  (ac_X0_freeBehind, 5),
  (ac_X0_countUp, 3),
  (ac_X0_numberOf, 7),
  (ac_X0_countPlane, 3),
  (ac_X0_isPlane, 7),
  (ac_X0_isBetween, 5),
  (ac_X0_placeRound, 2),
  (ac_X0_countThrough, 4),
  (ac_X0_upsideDown, 3),
  (ac_X0_across, 2),
  (ac_X0_closeRings, 6),
  (ac_X0_forgetSeen, 2),
  (ac_X0_stackLetters, 4),
  (ac_X0_letterAt, 2),
  (ac_X0_isLetter, 2),
  (ac_X0_ofLetter, 3),
  (ac_X0_pair, 3),
  (ac_X0_ofPairs, 6),
  (ac_X0_join, 4),
  (ac_X0_follow, 7),
  (ac_X0_countInnerRings, 7),
  (ac_X0_spellAll, 6),
  (ac_X0_spellBehind, 5),
  (ac_X0_letterOf, 3),
  (ac_X0_stackOn, 7),
  (ac_X1_init, 1),
  (ac_X1_begin, 2),
  (ac_X1_allows, 2),
  (ac_X1_append, 2),
  (ac_X1_dropLast, 1),
  (ac_X1_wholeAt, 3),
  (ac_X1_addStates, 10),
  (ac_X1_addState, 6),
  (ac_X2_init, 4),
  (ac_X2_nextDraft, 2),
  (ac_X2_keepDraft, 2),
  (ac_X2_isHalf, 4),
  (ac_X2_keepsWithin, 4),
  (ac_X2_countLeaving, 4),
  (ac_X2_find, 5),
  (ac_X2_lay, 5),
  (ac_X2_leadsOut, 7),
  (ac_X2_goRound, 7),
  (ac_X2_rank, 8),
  (ac_X2_fillTable, 6),
  (ac_X2_fillRow, 8),
  (ac_X2_raise, 5),
  (ac_X2_swapRows, 6),
  (ac_X2_clearBelow, 9),
  (ac_X3_init, 1),
  (ac_X3_begin, 2),
  (ac_X3_take, 2),
  (ac_X3_isLike, 3),
  (ac_X3_isAt, 4),
  (ac_X3_isFactor, 2),
  (ac_X3_join, 6),
  (ac_X3_change, 4),
  (ac_X3_insert, 6),
  (ac_X3_moveTail, 4),
  (ac_X3_joinAll, 4),
  (ac_X3_joinProducts, 8),
  (ac_X3_fitsProduct, 4),
  (ac_X4_init, 2),
  (ac_X4_many, 3),
  (ac_X4_partner, 4),
  (ac_X4_about, 5),
  (ac_X4_stack, 4),
  (ac_X4_box, 4),
  (ac_X4_plain, 3),
  (ac_X4_word, 4),
  (ac_X4_clear, 4),
  (ac_X4_add, 6),
  (ac_X4_work, 5),
  (ac_X4_sum, 3),
  (ac_X4_term, 5),
  (ac_X4_same, 3),
  (ac_X4_closed, 8),
  (ac_X4_halves, 3),
  (ac_X4_half, 6),
  (ac_X4_form, 7),
  (ac_X4_free, 5),
  (ac_X4_row, 2),
  (ac_X4_cross, 2),
  (ac_X4_back, 1),
  (ac_X4_power, 2),
  (ac_X4_isStrands, 1),
  (ac_X4_isSum, 1),
  (ac_X4_isThrough, 2),
  (ac_X4_isBox, 3),
  (ac_X4_isPrime, 2),
  (ac_X4_make, 4),
  (ac_X5_init, 3),
  (ac_X5_in, 6),
  (ac_X5_isWide, 1),
  (ac_X5_boxes, 1),
  (ac_X5_first, 1),
  (ac_X5_isBox, 2),
  (ac_X5_at, 2),
  (ac_X5_decode, 9),
  (ac_X5_numberOf, 5),
  (ac_X5_lead, 9),
  (ac_X5_stacked, 10),
  (ac_X5_ringsClosed, 9),
  (ac_X5_isLetter, 2),
  (ac_X5_plainBox, 5),
  (ac_X5_findWords, 10),
  (ac_X5_isPlane, 11),
  (ac_X5_round, 2),
  (ac_X5_many, 5),
  (ac_X5_partner, 4),
  (ac_X5_through, 5),
  (ac_X5_upsideDown, 5),
  (ac_X5_about, 4),
  (ac_X5_stack, 5),
  (ac_X5_box, 7),
  (ac_X5_plain, 3),
  (ac_X5_word, 8),
  (ac_X5_isSum, 1),
  (ac_X5_load, 3),
  (ac_X5_store, 4),
  (ac_X5_move, 3),
  (ac_X5_comes, 7),
  (ac_X5_clear, 5),
  (ac_X5_add, 6),
  (ac_X5_work, 17),
  (ac_X5_sum, 3),
  (ac_X5_term, 5),
  (ac_X5_same, 5),
  (ac_X5_closed, 7),
  (ac_X5_isHalf, 8),
  (ac_X5_lay, 10),
  (ac_X5_areHalves, 2),
  (ac_X5_halves, 3),
  (ac_X5_half, 6),
  (ac_X5_formOf, 7),
  (ac_X5_form, 8),
  (ac_X5_isPrime, 3),
  (ac_X5_inverse, 3),
  (ac_X5_free, 12),
  (ac_X5_reduce, 10),
  (ac_X5_row, 2),
  (ac_X5_cross, 3),
  (ac_X5_back, 1),
  (ac_X5_addState, 10),
  (ac_X5_power, 3),
  (ac_J9_floorMod_7cf53, 3),
  (ac_J9_abs_0f7a4, 1),
  (ac_J9_abs_067f4, 2),
  (ac_J9_min_7cf53, 2)]
def ac_P : am_P := (ac_ft, ac_L)
end
section
/-! The small machine's numbers beside the machine's own. -/
def am_r32 (x : Int) : Prop := -2147483648 ≤ x ∧ x < 2147483648
def am_r64 (x : Int) : Prop := -9223372036854775808 ≤ x ∧ x < 9223372036854775808
theorem am_w_r (x : Int) : am_r32 (am_w x) := by
  unfold am_w am_r32
  have h1 := Int.le_bmod (x := x) (m := 4294967296) (by decide)
  have h2 := Int.bmod_lt (x := x) (m := 4294967296) (by decide)
  omega
theorem am_wl_r (x : Int) : am_r64 (am_wl x) := by
  unfold am_wl am_r64
  have h1 := Int.le_bmod (x := x) (m := 18446744073709551616) (by decide)
  have h2 := Int.bmod_lt (x := x) (m := 18446744073709551616) (by decide)
  omega
theorem am_w_id {x : Int} (h : am_r32 x) : am_w x = x := by
  unfold am_r32 at h
  exact Int.bmod_eq_of_le (by omega) (by omega)
theorem am_wl_id {x : Int} (h : am_r64 x) : am_wl x = x := by
  unfold am_r64 at h
  exact Int.bmod_eq_of_le (by omega) (by omega)
theorem am_tI {x : Int} (h : am_r32 x) : (Int32.ofInt x).toInt = x := Int32.toInt_ofInt_of_le (by unfold am_r32 at h; omega) (by unfold am_r32 at h; omega)
theorem am_tL {x : Int} (h : am_r64 x) : (Int64.ofInt x).toInt = x := Int64.toInt_ofInt_of_le (by unfold am_r64 at h; omega) (by unfold am_r64 at h; omega)
theorem am_rI (a : Int32) : am_r32 a.toInt := ⟨by have := a.le_toInt; omega, by have := a.toInt_lt; omega⟩
theorem am_rL (a : Int64) : am_r64 a.toInt := ⟨by have := a.le_toInt; omega, by have := a.toInt_lt; omega⟩
theorem am_w_o (x : Int) : Int32.ofInt (am_w x) = Int32.ofInt x := Int32.toInt_inj.mp (by
  rw [am_tI (am_w_r x), Int32.toInt_ofInt]; rfl)
theorem am_wl_o (x : Int) : Int64.ofInt (am_wl x) = Int64.ofInt x := Int64.toInt_inj.mp (by
  rw [am_tL (am_wl_r x), Int64.toInt_ofInt]; rfl)
theorem am_o_add (x y : Int) : Int32.ofInt (am_w (x + y)) = Int32.ofInt x + Int32.ofInt y := by rw [am_w_o, Int32.ofInt_add]
theorem am_o_sub (x y : Int) : Int32.ofInt (am_w (x - y)) = Int32.ofInt x - Int32.ofInt y := by rw [am_w_o, Int32.ofInt_sub]
theorem am_o_mul (x y : Int) : Int32.ofInt (am_w (x * y)) = Int32.ofInt x * Int32.ofInt y := by rw [am_w_o, Int32.ofInt_mul]
theorem am_o_neg (x : Int) : Int32.ofInt (am_w (-x)) = -Int32.ofInt x := by rw [am_w_o, Int32.ofInt_neg]
theorem am_l_add (x y : Int) : Int64.ofInt (am_wl (x + y)) = Int64.ofInt x + Int64.ofInt y := by rw [am_wl_o, Int64.ofInt_add]
theorem am_l_mul (x y : Int) : Int64.ofInt (am_wl (x * y)) = Int64.ofInt x * Int64.ofInt y := by rw [am_wl_o, Int64.ofInt_mul]
theorem am_l_neg (x : Int) : Int64.ofInt (am_wl (-x)) = -Int64.ofInt x := by rw [am_wl_o, Int64.ofInt_neg]
theorem am_o_div {x y : Int} (hx : am_r32 x) (hy : am_r32 y) : Int32.ofInt (am_w (x.tdiv y)) = Int32.ofInt x / Int32.ofInt y := Int32.toInt_inj.mp (by
  rw [am_tI (am_w_r _), Int32.toInt_div, am_tI hx, am_tI hy]; rfl)
theorem am_l_div {x y : Int} (hx : am_r64 x) (hy : am_r64 y) : Int64.ofInt (am_wl (x.tdiv y)) = Int64.ofInt x / Int64.ofInt y := Int64.toInt_inj.mp (by
  rw [am_tL (am_wl_r _), Int64.toInt_div, am_tL hx, am_tL hy]; rfl)
theorem am_o_rem {x y : Int} (hx : am_r32 x) (hy : am_r32 y) : Int32.ofInt (x.tmod y) = Int32.ofInt x - Int32.ofInt x / Int32.ofInt y * Int32.ofInt y := by
  rw [← am_o_div hx hy, am_w_o, ← Int32.ofInt_mul, ← Int32.ofInt_sub]
  congr 1
  have := Int.mul_tdiv_add_tmod x y
  rw [Int.mul_comm] at this
  omega
theorem am_tmod_r {x y : Int} (hx : am_r32 x) : am_r32 (x.tmod y) := by
  unfold am_r32 at *
  have h2 : (x.tmod y).natAbs ≤ x.natAbs := by
    rw [Int.natAbs_tmod]
    exact Nat.mod_le _ _
  by_cases h : 0 ≤ x
  · have h1 := Int.tmod_nonneg y h
    omega
  · have h1 := Int.tmod_nonneg y (show 0 ≤ -x by omega)
    rw [Int.neg_tmod] at h1
    omega
theorem am_o_lt {x y : Int} (hx : am_r32 x) (hy : am_r32 y) : Int32.ofInt x < Int32.ofInt y ↔ x < y := by rw [Int32.lt_iff_toInt_lt, am_tI hx, am_tI hy]
theorem am_o_le {x y : Int} (hx : am_r32 x) (hy : am_r32 y) : Int32.ofInt x ≤ Int32.ofInt y ↔ x ≤ y := by rw [Int32.le_iff_toInt_le, am_tI hx, am_tI hy]
theorem am_o_eq {x y : Int} (hx : am_r32 x) (hy : am_r32 y) : Int32.ofInt x = Int32.ofInt y ↔ x = y := by rw [← Int32.toInt_inj, am_tI hx, am_tI hy]
theorem am_l_lt {x y : Int} (hx : am_r64 x) (hy : am_r64 y) : Int64.ofInt x < Int64.ofInt y ↔ x < y := by rw [Int64.lt_iff_toInt_lt, am_tL hx, am_tL hy]
theorem am_l_eq {x y : Int} (hx : am_r64 x) (hy : am_r64 y) : Int64.ofInt x = Int64.ofInt y ↔ x = y := by rw [← Int64.toInt_inj, am_tL hx, am_tL hy]
theorem am_0r : am_r32 0 := by unfold am_r32; omega
theorem am_0l : am_r64 0 := by unfold am_r64; omega
theorem am_o_cmp {x y : Int} (hx : am_r64 x) (hy : am_r64 y) : Int32.ofInt (if x < y then -1 else if x = y then 0 else 1) = lg_cmp (Int64.ofInt x) (Int64.ofInt y) := by
  unfold lg_cmp
  simp only [gt_iff_lt, am_l_lt hx hy, am_l_lt hy hx, am_l_eq hx hy]
  by_cases h1 : x < y
  · have h2 : ¬ y < x := by omega
    have h3 : ¬ x = y := by omega
    simp [h1, h2, h3]
  · by_cases h3 : x = y
    · have h2 : ¬ y < x := by omega
      simp [h1, h2, h3]
    · have h2 : y < x := by omega
      simp [h1, h2, h3]
theorem am_o_i2l {x : Int} (hx : am_r32 x) : (Int32.ofInt x).toInt64 = Int64.ofInt x := Int64.toInt_inj.mp (by
  rw [Int32.toInt_toInt64, am_tI hx, am_tL]; unfold am_r32 at hx; unfold am_r64; omega)
theorem am_o_l2i (x : Int) : (Int64.ofInt x).toInt32 = Int32.ofInt (am_w x) := by rw [am_w_o, Int64.toInt32_ofInt]
theorem am_32_64 {x : Int} (hx : am_r32 x) : am_r64 x := by unfold am_r32 at hx; unfold am_r64; omega
/-- an index in range -/
theorem am_o_ix {i : Int} {n : Nat} (h0 : 0 ≤ i) (h : i < (n : Int)) (hr : am_r32 i) : vp_in (Int32.ofInt i) n ∧ (Int32.ofInt i).toNatClampNeg = i.toNat := by
  have e := am_tI hr
  refine ⟨vp_in_iff.mpr (by rw [e]; exact ⟨h0, h⟩), ?_⟩
  show (Int32.ofInt i).toInt.toNat = i.toNat
  rw [e]
theorem am_cst_r (x y : Nat) (h : y < 9223372036854775808) : am_r64 (am_cst x y) := by
  unfold am_cst am_r64
  split <;> omega
end
section
/-! The small machine's cells and locals beside the machine's. -/
def am_toI (v : am_V) : Int32 := match v with
  | .inl (.inl x) => Int32.ofInt x
  | _ => 0
def am_toL (v : am_V) : Int64 := match v with
  | .inl (.inr x) => Int64.ofInt x
  | _ => 0
def am_toR (ad : Nat → Nat) (v : am_V) : Option Nat := match v with
  | .inr (some (some k)) => some (ad k)
  | _ => none
def am_cv (ad : Nat → Nat) (v : am_V) : Value := match v with
  | .inl (.inl x) => .int (Int32.ofInt x)
  | .inl (.inr x) => .long (Int64.ofInt x)
  | .inr (some (some k)) => .ref (ad k)
  | .inr _ => .null
def am_ce (ad : Nat → Nat) (ca : Nat → ClassId) (K : am_K) : va_E :=
  if K.1 < 2 then .inl (ca K.1, K.2.1, .inl (fun i => am_toI (K.2.2 i)))
  else if K.1 = 2 then .inl (ca 2, K.2.1, .inr (.inl (fun i => am_toL (K.2.2 i))))
  else if K.1 < 7 then .inl (ca K.1, K.2.1, .inr (.inr (.inr (.inr (fun i => am_toR ad (K.2.2 i))))))
  else .inr (K.1 - 10, (List.range K.2.1).map (fun y => am_cv ad (K.2.2 y)))
def am_ws (ad : Nat → Nat) (ca : Nat → ClassId) (h : am_H) : va_W := (List.range h.1).map (fun k => (ad k, am_ce ad ca (h.2.2 k)))
/-- a value: its number in range, its cell there -/
def am_vk (n : Nat) (v : am_V) : Prop := match v with
  | .inl (.inl x) => am_r32 x
  | .inl (.inr x) => am_r64 x
  | .inr (some (some k)) => k < n
  | .inr (some none) => True
  | .inr none => False
/-- a value of a kind: 0 int, 1 boolean, 2 long, 3 reference -/
def am_vt (n k : Nat) (v : am_V) : Prop := am_vk n v ∧ am_fok k v = true
def am_ek (kd : Nat) : Nat := match kd with
  | 0 => 0
  | 1 => 1
  | 2 => 2
  | _ => 3
def am_ckd (ft : am_ft) (n : Nat) (K : am_K) : Prop := (K.1 < 7 ∧ K.2.1 ≤ 1024 ∧ ∀ i, am_vt n (am_ek K.1) (K.2.2 i)) ∨ (10 ≤ K.1 ∧ ∀ i, i < K.2.1 → am_vt n (ft (K.1 - 10) i) (K.2.2 i))
def am_gd (ft : am_ft) (h : am_H) : Prop := ∀ k, k < h.1 → am_ckd ft h.1 (h.2.2 k)
theorem am_vk.mono {n m : Nat} {v : am_V} (h : am_vk n v) (hm : n ≤ m) : am_vk m v := by
  rcases v with (x | x) | _ | _ | k
  · exact h
  · exact h
  · exact h
  · exact h
  · exact Nat.lt_of_lt_of_le h hm
theorem am_vt.mono {n m k : Nat} {v : am_V} (h : am_vt n k v) (hm : n ≤ m) : am_vt m k v := ⟨h.1.mono hm, h.2⟩
theorem am_ckd.mono {ft : am_ft} {n m : Nat} {K : am_K} (h : am_ckd ft n K) (hm : n ≤ m) : am_ckd ft m K := by
  rcases h with h | h
  · exact Or.inl ⟨h.1, h.2.1, fun i => (h.2.2 i).mono hm⟩
  · exact Or.inr ⟨h.1, fun i hi => (h.2 i hi).mono hm⟩
theorem am_ws_at {ad : Nat → Nat} {ca : Nat → ClassId} {h : am_H} {k : Nat} (hk : k < h.1) : (am_ws ad ca h)[k]? = some (ad k, am_ce ad ca (h.2.2 k)) := by
  unfold am_ws
  rw [List.getElem?_map, List.getElem?_range hk]
  rfl
theorem am_ws_len {ad : Nat → Nat} {ca : Nat → ClassId} {h : am_H} : (am_ws ad ca h).length = h.1 := by
  unfold am_ws
  simp
/-- one cell changed -/
theorem am_ws_set {ad : Nat → Nat} {ca : Nat → ClassId} {h : am_H} {a : Nat} {K : am_K} {e : va_E} (ha : a < h.1) (he : am_ce ad ca K = e) : am_ws ad ca (h.1, h.2.1, am_up h.2.2 a K) = (am_ws ad ca h).set a (ad a, e) := by
  apply List.ext_getElem?
  intro i
  rw [List.getElem?_set]
  by_cases hi : i < h.1
  · have h1 := am_ws_at (ad := ad) (ca := ca) (h := (h.1, h.2.1, am_up h.2.2 a K)) (k := i) hi
    rw [h1]
    by_cases e1 : a = i
    · subst e1
      rw [if_pos rfl, if_pos (by rw [am_ws_len]; exact ha)]
      simp [am_up, he]
    · rw [if_neg e1, am_ws_at hi]
      simp [am_up, Ne.symm e1]
  · have h1 : (am_ws ad ca (h.1, h.2.1, am_up h.2.2 a K))[i]? = none := List.getElem?_eq_none (by rw [am_ws_len]; exact Nat.le_of_not_lt hi)
    rw [h1]
    by_cases e1 : a = i
    · subst e1
      exact absurd ha hi
    · rw [if_neg e1]
      exact (List.getElem?_eq_none (by rw [am_ws_len]; exact Nat.le_of_not_lt hi)).symm
theorem am_toR_cg {ad ad' : Nat → Nat} {n : Nat} (h : ∀ k, k < n → ad' k = ad k) {v : am_V} (hv : am_vk n v) : am_toR ad' v = am_toR ad v := by
  rcases v with (x | x) | _ | _ | k
  · rfl
  · rfl
  · rfl
  · rfl
  · exact congrArg some (h k hv)
theorem am_cv_cg {ad ad' : Nat → Nat} {n : Nat} (h : ∀ k, k < n → ad' k = ad k) {v : am_V} (hv : am_vk n v) : am_cv ad' v = am_cv ad v := by
  rcases v with (x | x) | _ | _ | k
  · rfl
  · rfl
  · rfl
  · rfl
  · exact congrArg Value.ref (h k hv)
theorem am_ce_cg {ft : am_ft} {ad ad' : Nat → Nat} {ca : Nat → ClassId} {n : Nat} (h : ∀ k, k < n → ad' k = ad k) {K : am_K} (hK : am_ckd ft n K) : am_ce ad' ca K = am_ce ad ca K := by
  unfold am_ce
  rcases hK with hK | hK
  · have e : (fun i => am_toR ad' (K.2.2 i)) = (fun i => am_toR ad (K.2.2 i)) := funext fun i => am_toR_cg h (hK.2.2 i).1
    rw [e]
    simp only [if_pos hK.1]
  · have e : (List.range K.2.1).map (fun y => am_cv ad' (K.2.2 y)) = (List.range K.2.1).map (fun y => am_cv ad (K.2.2 y)) := List.map_congr_left fun y hy => am_cv_cg h (hK.2 y (List.mem_range.mp hy)).1
    rw [e]
    have h1 : ¬ K.1 < 2 := by omega
    have h2 : ¬ K.1 = 2 := by omega
    have h3 : ¬ K.1 < 7 := by omega
    simp only [if_neg h1, if_neg h2, if_neg h3]
theorem am_ws_cg {ft : am_ft} {ad ad' : Nat → Nat} {ca : Nat → ClassId} {h : am_H} (hg : am_gd ft h) (hh : ∀ k, k < h.1 → ad' k = ad k) : am_ws ad' ca h = am_ws ad ca h := by
  unfold am_ws
  refine List.map_congr_left fun k hk => ?_
  rw [hh k (List.mem_range.mp hk), am_ce_cg hh (hg k (List.mem_range.mp hk))]
/-- one cell more -/
theorem am_ws_push {ft : am_ft} {ad : Nat → Nat} {ca : Nat → ClassId} {h : am_H} {q : Nat} {K : am_K} {z : Nat} (hg : am_gd ft h) : am_ws (am_up ad h.1 q) ca (h.1 + 1, z, am_up h.2.2 h.1 K) = am_ws ad ca h ++ [(q, am_ce (am_up ad h.1 q) ca K)] := by
  have h1 : am_ws (am_up ad h.1 q) ca h = am_ws ad ca h := am_ws_cg hg (fun k hk => by simp [am_up, Nat.ne_of_lt hk])
  rw [← h1]
  unfold am_ws
  show (List.range (h.1 + 1)).map _ = _
  rw [List.range_succ, List.map_append]
  congr 1
  · refine List.map_congr_left fun k hk => ?_
    have := List.mem_range.mp hk
    simp [am_up, Nat.ne_of_lt this]
  · simp [am_up]
-- locals
def am_ent (ad : Nat → Nat) (ls : List am_V) (i : Nat) : Option (Nat × Value) := match ls[i]? with
  | some (.inr none) => none
  | some v => some (i, am_cv ad v)
  | none => none
def am_lvl (ad : Nat → Nat) (ls : List am_V) : List (Nat × Value) := (List.range ls.length).filterMap (am_ent ad ls)
def am_LR (ad : Nat → Nat) (ls : List am_V) (LS : Array Slot) : Prop := lv_has LS ls.length (am_lvl ad ls)
theorem am_ent_some {ad : Nat → Nat} {ls : List am_V} {i : Nat} {v : am_V} (h : ls[i]? = some v) (hv : v ≠ vU) : am_ent ad ls i = some (i, am_cv ad v) := by
  unfold am_ent
  rw [h]
  rcases v with (x | x) | _ | _ | k
  · rfl
  · rfl
  · exact absurd rfl hv
  · rfl
  · rfl
theorem am_ent_inv {ad : Nat → Nat} {ls : List am_V} {i : Nat} {q : Nat × Value} (h : am_ent ad ls i = some q) : ∃ v, ls[i]? = some v ∧ v ≠ vU ∧ q = (i, am_cv ad v) := by
  unfold am_ent at h
  rcases hv : ls[i]? with _ | ((x | x) | _ | _ | k) <;> rw [hv] at h
  · cases h
  · exact ⟨_, rfl, (fun q => by cases q), (Option.some.inj h).symm⟩
  · exact ⟨_, rfl, (fun q => by cases q), (Option.some.inj h).symm⟩
  · cases h
  · exact ⟨_, rfl, (fun q => by cases q), (Option.some.inj h).symm⟩
  · exact ⟨_, rfl, (fun q => by cases q), (Option.some.inj h).symm⟩
theorem am_lvl_mem {ad : Nat → Nat} {ls : List am_V} {q : Nat × Value} : q ∈ am_lvl ad ls ↔ ∃ v, ls[q.1]? = some v ∧ v ≠ vU ∧ q.2 = am_cv ad v := by
  unfold am_lvl
  rw [List.mem_filterMap]
  constructor
  · rintro ⟨i, -, hi⟩
    obtain ⟨v, h1, h2, rfl⟩ := am_ent_inv hi
    exact ⟨v, h1, h2, rfl⟩
  · rintro ⟨v, h1, h2, h3⟩
    refine ⟨q.1, List.mem_range.mpr (List.getElem?_eq_some_iff.mp h1).1, ?_⟩
    rw [am_ent_some h1 h2, ← h3]
theorem am_LR.get {ad : Nat → Nat} {ls : List am_V} {LS : Array Slot} (h : am_LR ad ls LS) {i : Nat} {v : am_V} (hi : ls[i]? = some v) (hv : v ≠ vU) : LS[i]? = some (.val (am_cv ad v)) := h.2.2 (i, am_cv ad v) (am_lvl_mem.mpr ⟨v, hi, hv, rfl⟩)
theorem am_cl_len (ls : List am_V) (i : Nat) : (am_cl ls i).length = ls.length := by
  unfold am_cl
  split
  · rfl
  · split
    · exact List.length_set
    · rfl
theorem am_cv_cat {ad : Nat → Nat} {v : am_V} (h : ∀ x, v ≠ vL x) : (am_cv ad v).category = 1 := by
  rcases v with (x | x) | _ | _ | k
  · rfl
  · exact absurd rfl (h x)
  · rfl
  · rfl
  · rfl
theorem am_cl_get {ls : List am_V} {i j : Nat} {v : am_V} (h : (am_cl ls i)[j]? = some v) (hv : v ≠ vU) : ls[j]? = some v ∧ ¬ (j + 1 = i ∧ ∃ x, v = vL x) := by
  unfold am_cl at h
  split at h
  · exact ⟨h, by rintro ⟨q, -⟩; omega⟩
  · rename_i k
    split at h
    · rename_i x hx
      rw [List.getElem?_set] at h
      by_cases e : k = j
      · subst e
        rw [if_pos rfl] at h
        split at h
        · exact absurd (Option.some.inj h).symm hv
        · cases h
      · rw [if_neg e] at h
        exact ⟨h, by rintro ⟨q, -⟩; omega⟩
    · rename_i hx
      refine ⟨h, ?_⟩
      rintro ⟨q, x, rfl⟩
      have : j = k := by omega
      subst this
      exact hx x h
theorem am_LR.put1 {ad : Nat → Nat} {ls : List am_V} {LS : Array Slot} {i : Nat} {v : am_V} (hi : i < ls.length) (h : lv_has LS ls.length ((i, am_cv ad v) :: (am_lvl ad ls).filter (fun q => !(q.1 == i) && !(q.1 + 1 == i && q.2.category == 2)))) : am_LR ad ((am_cl ls i).set i v) LS := by
  refine ⟨by rw [List.length_set, am_cl_len]; exact h.1, h.2.1, fun q hq => h.2.2 q ?_⟩
  obtain ⟨w, h1, h2, h3⟩ := am_lvl_mem.mp hq
  rw [List.getElem?_set] at h1
  by_cases e : i = q.1
  · rw [if_pos e, if_pos (by rw [am_cl_len]; exact hi)] at h1
    rw [← Option.some.inj h1] at h3
    exact List.mem_cons.mpr (Or.inl (Prod.ext e.symm h3))
  · rw [if_neg e] at h1
    obtain ⟨h4, h5⟩ := am_cl_get h1 h2
    refine List.mem_cons.mpr (Or.inr (List.mem_filter.mpr ⟨am_lvl_mem.mpr ⟨w, h4, h2, h3⟩, ?_⟩))
    have e1 : (q.1 == i) = false := by simpa using Ne.symm e
    rw [e1]
    by_cases e2 : q.1 + 1 = i
    · have : q.2.category = 1 := by
        rw [h3]
        exact am_cv_cat (fun x hx => h5 ⟨e2, x, hx⟩)
      simp [this]
    · have e3 : (q.1 + 1 == i) = false := by simpa using e2
      simp [e3]
theorem am_LR.put2 {ad : Nat → Nat} {ls : List am_V} {LS : Array Slot} {i : Nat} {v : am_V} (hi : i + 1 < ls.length) (h : lv_has LS ls.length ((i, am_cv ad v) :: (am_lvl ad ls).filter (fun q => !(q.1 == i) && (!(q.1 == i + 1) && !(q.1 + 1 == i && q.2.category == 2))))) : am_LR ad (((am_cl ls i).set i v).set (i + 1) vU) LS := by
  refine ⟨by rw [List.length_set, List.length_set, am_cl_len]; exact h.1, h.2.1, fun q hq => h.2.2 q ?_⟩
  obtain ⟨w, h1, h2, h3⟩ := am_lvl_mem.mp hq
  rw [List.getElem?_set] at h1
  by_cases e0 : i + 1 = q.1
  · rw [if_pos e0] at h1
    split at h1
    · exact absurd (Option.some.inj h1).symm h2
    · cases h1
  · rw [if_neg e0, List.getElem?_set] at h1
    by_cases e : i = q.1
    · rw [if_pos e, if_pos (by rw [am_cl_len]; omega)] at h1
      rw [← Option.some.inj h1] at h3
      exact List.mem_cons.mpr (Or.inl (Prod.ext e.symm h3))
    · rw [if_neg e] at h1
      obtain ⟨h4, h5⟩ := am_cl_get h1 h2
      refine List.mem_cons.mpr (Or.inr (List.mem_filter.mpr ⟨am_lvl_mem.mpr ⟨w, h4, h2, h3⟩, ?_⟩))
      have e1 : (q.1 == i) = false := by simpa using Ne.symm e
      have e4 : (q.1 == i + 1) = false := by simpa using Ne.symm e0
      rw [e1, e4]
      by_cases e2 : q.1 + 1 = i
      · have : q.2.category = 1 := by
          rw [h3]
          exact am_cv_cat (fun x hx => h5 ⟨e2, x, hx⟩)
        simp [this]
      · have e3 : (q.1 + 1 == i) = false := by simpa using e2
        simp [e3]
end
section
/-! Each step of the small machine is one of the machine's (all but calls and returns). -/
/-- the types of what an array of a kind holds -/
def am_ty (k : Nat) : FieldType := match k with
  | 0 => .int
  | 1 => .boolean
  | 2 => .long
  | 3 => .array .int
  | 4 => .object "StrandBoxes$Boxes"
  | 5 => .object "StrandBoxes$Halves"
  | _ => .object "StrandBoxes$Sum"
def am_tys (ca : Nat → ClassId) : List (ClassId × FieldType) := [(ca 0, am_ty 0), (ca 1, am_ty 1), (ca 2, am_ty 2), (ca 3, am_ty 3), (ca 4, am_ty 4), (ca 5, am_ty 5), (ca 6, am_ty 6)]
theorem am_tys_at (ca : Nat → ClassId) {k : Nat} (h : k < 7) : (am_tys ca)[k]? = some (ca k, am_ty k) := by
  rcases (show k = 0 ∨ k = 1 ∨ k = 2 ∨ k = 3 ∨ k = 4 ∨ k = 5 ∨ k = 6 by omega) with rfl | rfl | rfl | rfl | rfl | rfl | rfl <;> rfl
/-- from a state of the small machine the machine comes to Q, wherever the cells lie -/
def am_G (p : Program) (l : Launch) (e : Env) (R : Room) (s : State) (m : MethodId) (args : Array Value) (below : List Frame) (meth : Method) (c : Code) (Q : State → Prop) (D : va_G) (ca : Nat → ClassId) (ft : am_ft) (A : Nat → Prop) (n0 z0 : Nat) (ad0 : Nat → Nat) (nL : Nat) (t : am_S) : Prop :=
  ∀ (ad : Nat → Nat) (H : Heap) (locs : List Loc) (LS : Array Slot), (∀ k, k < n0 → ad k = ad0 k) → n0 ≤ t.2.2.2.1 → z0 ≤ t.2.2.2.2.1 → am_gd ft t.2.2.2 → (∀ v ∈ t.2.2.1, am_vk t.2.2.2.1 v) → (∀ v ∈ t.2.1, v = vU ∨ am_vk t.2.2.2.1 v) →
    va_P D vwCl (am_ws ad ca t.2.2.2) H → va_D A (am_ws ad ca t.2.2.2) → va_S A s.heap H locs → am_LR ad t.2.1 LS → t.2.1.length = nL →
    W p l e R s m args below meth c H locs (t.2.2.2.1 - n0) (t.2.2.2.2.1 - z0) Q (F0 m t.1 LS (t.2.2.1.map (am_cv ad)))
section SM
variable {p : Program} {l : Launch} {e : Env} {R : Room} {s : State} {m : MethodId} {args : Array Value} {below : List Frame} {meth : Method} {c : Code} {Q : State → Prop} {D : va_G} {ca : Nat → ClassId} {ft : am_ft} {A : Nat → Prop} {n0 z0 : Nat} {ad0 : Nat → Nat} {nL : Nat} {cc : ByteArray}
/-- only the stack's top changes -/
theorem sm_stk {pc pc2 : Nat} {ls us us2 st : List am_V} {h : am_H} (hg : (∀ v ∈ us, am_vk h.1 v) → ∀ v ∈ us2, am_vk h.1 v)
    (hW : ∀ (ad : Nat → Nat) (H : Heap) (locs : List Loc) (LS : Array Slot) (k z : Nat) (rest : List Value), (∀ v ∈ us, am_vk h.1 v) → W p l e R s m args below meth c H locs k z Q (F0 m pc2 LS (us2.map (am_cv ad) ++ rest)) → W p l e R s m args below meth c H locs k z Q (F0 m pc LS (us.map (am_cv ad) ++ rest)))
    (k : am_G p l e R s m args below meth c Q D ca ft A n0 z0 ad0 nL (pc2, ls, us2 ++ st, h)) : am_G p l e R s m args below meth c Q D ca ft A n0 z0 ad0 nL (pc, ls, us ++ st, h) := by
  intro ad H locs LS h1 h2 h3 h4 h5 h6 h7 h8 h9 h10 h11
  have hu : ∀ v ∈ us, am_vk h.1 v := fun v hv => h5 v (List.mem_append_left _ hv)
  have := k ad H locs LS h1 h2 h3 h4 (fun v hv => (List.mem_append.mp hv).elim (hg hu v) (fun q => h5 v (List.mem_append_right _ q))) h6 h7 h8 h9 h10 h11
  rw [List.map_append] at this ⊢
  exact hW ad H locs LS _ _ _ hu this
theorem sm_push {pc pc2 : Nat} {ls st : List am_V} {h : am_H} {v : am_V} (hv : am_vk h.1 v)
    (hW : ∀ (ad : Nat → Nat) (H : Heap) (locs : List Loc) (LS : Array Slot) (k z : Nat) (rest : List Value), W p l e R s m args below meth c H locs k z Q (F0 m pc2 LS (am_cv ad v :: rest)) → W p l e R s m args below meth c H locs k z Q (F0 m pc LS rest))
    (k : am_G p l e R s m args below meth c Q D ca ft A n0 z0 ad0 nL (pc2, ls, v :: st, h)) : am_G p l e R s m args below meth c Q D ca ft A n0 z0 ad0 nL (pc, ls, st, h) :=
  sm_stk (us := []) (us2 := [v]) (fun _ w hw => by rw [List.mem_singleton.mp hw]; exact hv) (fun ad H locs LS k z rest _ q => hW ad H locs LS k z rest q) k
theorem sm_bin {pc : Nat} {ls st : List am_V} {h : am_H} {x y z : Int} {g : Int32 → Int32 → Int32} (hz : am_r32 x → am_r32 y → am_r32 z ∧ Int32.ofInt z = g (Int32.ofInt x) (Int32.ofInt y))
    (hW : ∀ (H : Heap) (locs : List Loc) (LS : Array Slot) (k z : Nat) (rest : List Value), am_r32 x → am_r32 y → W p l e R s m args below meth c H locs k z Q (F0 m (pc + 1) LS (.int (g (Int32.ofInt x) (Int32.ofInt y)) :: rest)) → W p l e R s m args below meth c H locs k z Q (F0 m pc LS (.int (Int32.ofInt y) :: .int (Int32.ofInt x) :: rest)))
    (k : am_G p l e R s m args below meth c Q D ca ft A n0 z0 ad0 nL (pc + 1, ls, vI z :: st, h)) : am_G p l e R s m args below meth c Q D ca ft A n0 z0 ad0 nL (pc, ls, vI y :: vI x :: st, h) := by
  refine sm_stk (us := [vI y, vI x]) (us2 := [vI z]) (fun q w hw => ?_) (fun ad H locs LS k z9 rest q w => ?_) k
  · rw [List.mem_singleton.mp hw]
    exact (hz (q (vI x) (by simp)) (q (vI y) (by simp))).1
  · have hx : am_r32 x := q (vI x) (by simp)
    have hy : am_r32 y := q (vI y) (by simp)
    have e := (hz hx hy).2
    refine hW H locs LS k z9 rest hx hy ?_
    rw [← e]
    exact w
theorem sm_binl {pc : Nat} {ls st : List am_V} {h : am_H} {x y z : Int} {g : Int64 → Int64 → Int64} (hz : am_r64 x → am_r64 y → am_r64 z ∧ Int64.ofInt z = g (Int64.ofInt x) (Int64.ofInt y))
    (hW : ∀ (H : Heap) (locs : List Loc) (LS : Array Slot) (k z : Nat) (rest : List Value), am_r64 x → am_r64 y → W p l e R s m args below meth c H locs k z Q (F0 m (pc + 1) LS (.long (g (Int64.ofInt x) (Int64.ofInt y)) :: rest)) → W p l e R s m args below meth c H locs k z Q (F0 m pc LS (.long (Int64.ofInt y) :: .long (Int64.ofInt x) :: rest)))
    (k : am_G p l e R s m args below meth c Q D ca ft A n0 z0 ad0 nL (pc + 1, ls, vL z :: st, h)) : am_G p l e R s m args below meth c Q D ca ft A n0 z0 ad0 nL (pc, ls, vL y :: vL x :: st, h) := by
  refine sm_stk (us := [vL y, vL x]) (us2 := [vL z]) (fun q w hw => ?_) (fun ad H locs LS k z9 rest q w => ?_) k
  · rw [List.mem_singleton.mp hw]
    exact (hz (q (vL x) (by simp)) (q (vL y) (by simp))).1
  · have hx : am_r64 x := q (vL x) (by simp)
    have hy : am_r64 y := q (vL y) (by simp)
    have e := (hz hx hy).2
    refine hW H locs LS k z9 rest hx hy ?_
    rw [← e]
    exact w
theorem sm_shl {pc : Nat} {ls st : List am_V} {h : am_H} {x y z : Int} {g : Int64 → Int32 → Int64} (hz : Int64.ofInt z = g (Int64.ofInt x) (Int32.ofInt y)) (hr : am_r64 z)
    (hW : ∀ (H : Heap) (locs : List Loc) (LS : Array Slot) (k z : Nat) (rest : List Value), W p l e R s m args below meth c H locs k z Q (F0 m (pc + 1) LS (.long (g (Int64.ofInt x) (Int32.ofInt y)) :: rest)) → W p l e R s m args below meth c H locs k z Q (F0 m pc LS (.int (Int32.ofInt y) :: .long (Int64.ofInt x) :: rest)))
    (k : am_G p l e R s m args below meth c Q D ca ft A n0 z0 ad0 nL (pc + 1, ls, vL z :: st, h)) : am_G p l e R s m args below meth c Q D ca ft A n0 z0 ad0 nL (pc, ls, vI y :: vL x :: st, h) := by
  refine sm_stk (us := [vI y, vL x]) (us2 := [vL z]) (fun q w hw => ?_) (fun ad H locs LS k z9 rest q w => ?_) k
  · rw [List.mem_singleton.mp hw]
    exact hr
  · refine hW H locs LS k z9 rest ?_
    rw [← hz]
    exact w
theorem sm_load {pc pc2 i : Nat} {ls st : List am_V} {h : am_H} {v : am_V} (hi : ls[i]? = some v) (hv : v ≠ vU)
    (hW : ∀ (ad : Nat → Nat) (H : Heap) (locs : List Loc) (LS : Array Slot) (k z : Nat) (rest : List Value), LS[i]? = some (.val (am_cv ad v)) → W p l e R s m args below meth c H locs k z Q (F0 m pc2 LS (am_cv ad v :: rest)) → W p l e R s m args below meth c H locs k z Q (F0 m pc LS rest))
    (k : am_G p l e R s m args below meth c Q D ca ft A n0 z0 ad0 nL (pc2, ls, v :: st, h)) : am_G p l e R s m args below meth c Q D ca ft A n0 z0 ad0 nL (pc, ls, st, h) := by
  intro ad H locs LS h1 h2 h3 h4 h5 h6 h7 h8 h9 h10 h11
  have hk : am_vk h.1 v := (h6 v (List.mem_of_getElem? hi)).elim (fun q => absurd q hv) (fun q => q)
  have := k ad H locs LS h1 h2 h3 h4 (fun w hw => (List.mem_cons.mp hw).elim (fun q => by rw [q]; exact hk) (h5 w)) h6 h7 h8 h9 h10 h11
  exact hW ad H locs LS _ _ _ (h10.get hi hv) this
theorem sm_stor {pc pc2 i : Nat} {ls st : List am_V} {h : am_H} {v : am_V} (hi : i < ls.length)
    (hW : ∀ (ad : Nat → Nat) (H : Heap) (locs : List Loc) (LS : Array Slot) (k z : Nat) (rest : List Value), lv_has LS ls.length (am_lvl ad ls) → (∀ LS2 : Array Slot, lv_has LS2 ls.length ((i, am_cv ad v) :: (am_lvl ad ls).filter (fun q => !(q.1 == i) && !(q.1 + 1 == i && q.2.category == 2))) → W p l e R s m args below meth c H locs k z Q (F0 m pc2 LS2 rest)) → W p l e R s m args below meth c H locs k z Q (F0 m pc LS (am_cv ad v :: rest)))
    (k : am_G p l e R s m args below meth c Q D ca ft A n0 z0 ad0 nL (pc2, (am_cl ls i).set i v, st, h)) : am_G p l e R s m args below meth c Q D ca ft A n0 z0 ad0 nL (pc, ls, v :: st, h) := by
  intro ad H locs LS h1 h2 h3 h4 h5 h6 h7 h8 h9 h10 h11
  refine hW ad H locs LS _ _ _ h10 (fun LS2 q => ?_)
  refine k ad H locs LS2 h1 h2 h3 h4 (fun w hw => h5 w (List.mem_cons_of_mem _ hw)) (fun w hw => ?_) h7 h8 h9 (am_LR.put1 hi q) (by show ((am_cl ls i).set i v).length = nL; rw [List.length_set, am_cl_len]; exact h11)
  rcases List.mem_or_eq_of_mem_set hw with q1 | q1
  · by_cases e : w = vU
    · exact Or.inl e
    · obtain ⟨j, hj⟩ := List.getElem?_of_mem q1
      exact h6 w (List.mem_of_getElem? (am_cl_get hj e).1)
  · rw [q1]
    exact Or.inr (h5 v (by simp))
theorem sm_storl {pc pc2 i : Nat} {ls st : List am_V} {h : am_H} {x : Int} (hi : i + 1 < ls.length)
    (hW : ∀ (ad : Nat → Nat) (H : Heap) (locs : List Loc) (LS : Array Slot) (k z : Nat) (rest : List Value), lv_has LS ls.length (am_lvl ad ls) → (∀ LS2 : Array Slot, lv_has LS2 ls.length ((i, .long (Int64.ofInt x)) :: (am_lvl ad ls).filter (fun q => !(q.1 == i) && (!(q.1 == i + 1) && !(q.1 + 1 == i && q.2.category == 2)))) → W p l e R s m args below meth c H locs k z Q (F0 m pc2 LS2 rest)) → W p l e R s m args below meth c H locs k z Q (F0 m pc LS (.long (Int64.ofInt x) :: rest)))
    (k : am_G p l e R s m args below meth c Q D ca ft A n0 z0 ad0 nL (pc2, ((am_cl ls i).set i (vL x)).set (i + 1) vU, st, h)) : am_G p l e R s m args below meth c Q D ca ft A n0 z0 ad0 nL (pc, ls, vL x :: st, h) := by
  intro ad H locs LS h1 h2 h3 h4 h5 h6 h7 h8 h9 h10 h11
  refine hW ad H locs LS _ _ _ h10 (fun LS2 q => ?_)
  refine k ad H locs LS2 h1 h2 h3 h4 (fun w hw => h5 w (List.mem_cons_of_mem _ hw)) (fun w hw => ?_) h7 h8 h9 (am_LR.put2 (v := vL x) hi q) (by show (((am_cl ls i).set i (vL x)).set (i + 1) vU).length = nL; rw [List.length_set, List.length_set, am_cl_len]; exact h11)
  rcases List.mem_or_eq_of_mem_set hw with q0 | q0
  · rcases List.mem_or_eq_of_mem_set q0 with q1 | q1
    · by_cases e : w = vU
      · exact Or.inl e
      · obtain ⟨j, hj⟩ := List.getElem?_of_mem q1
        exact h6 w (List.mem_of_getElem? (am_cl_get hj e).1)
    · rw [q1]
      exact Or.inr (h5 (vL x) (by simp))
  · exact Or.inl q0
theorem sm_iinc {pc i : Nat} {ls st : List am_V} {h : am_H} {x n : Int} (hx : p.tables.exec = Jvm.exec) (hb : c.code = cc) (hdg : decode cc pc = .ok (.iinc i n, 3)) (hi : ls[i]? = some (vI x))
    (k : am_G p l e R s m args below meth c Q D ca ft A n0 z0 ad0 nL (pc + 3, (am_cl ls i).set i (vI (am_w (x + n))), st, h)) : am_G p l e R s m args below meth c Q D ca ft A n0 z0 ad0 nL (pc, ls, st, h) := by
  intro ad H locs LS h1 h2 h3 h4 h5 h6 h7 h8 h9 h10 h11
  have hl : i < ls.length := (List.getElem?_eq_some_iff.mp hi).1
  have hm : (i, Value.int (Int32.ofInt x)) ∈ am_lvl ad ls := am_lvl_mem.mpr ⟨vI x, hi, (fun q => by cases q), rfl⟩
  obtain ⟨j, hj⟩ := List.getElem?_of_mem hm
  refine lv_iinc (k := j) (v := Int32.ofInt (am_w (x + n))) hx hb hdg h10 hj (by rw [am_w_o, Int32.ofInt_add]) hl rfl (fun LS2 q => ?_)
  refine k ad H locs LS2 h1 h2 h3 h4 h5 (fun w hw => ?_) h7 h8 h9 (am_LR.put1 (v := vI (am_w (x + n))) hl q) (by show ((am_cl ls i).set i _).length = nL; rw [List.length_set, am_cl_len]; exact h11)
  rcases List.mem_or_eq_of_mem_set hw with q1 | q1
  · by_cases e : w = vU
    · exact Or.inl e
    · obtain ⟨j, hj⟩ := List.getElem?_of_mem q1
      exact h6 w (List.mem_of_getElem? (am_cl_get hj e).1)
  · rw [q1]
    exact Or.inr (am_w_r _)
end SM
end
section
/-! Branches, fields, arrays. -/
section SM
variable {p : Program} {l : Launch} {e : Env} {R : Room} {s : State} {m : MethodId} {args : Array Value} {below : List Frame} {meth : Method} {c : Code} {Q : State → Prop} {D : va_G} {ca : Nat → ClassId} {ft : am_ft} {A : Nat → Prop} {n0 z0 : Nat} {ad0 : Nat → Nat} {nL : Nat} {cc : ByteArray}
theorem sm_if {cnd : Jvm.ClassFile.Cond} {pc tgt : Nat} {off : Int} {ls st : List am_V} {h : am_H} {a : Int} (hx : p.tables.exec = Jvm.exec) (hb : c.code = cc) (hdg : decode cc pc = .ok (.ifCond cnd off, 3)) (ht : (pc : Int) + off = (tgt : Int))
    (k : am_G p l e R s m args below meth c Q D ca ft A n0 z0 ad0 nL ((if am_cmp cnd a 0 then tgt else pc + 3), ls, st, h)) : am_G p l e R s m args below meth c Q D ca ft A n0 z0 ad0 nL (pc, ls, vI a :: st, h) := by
  intro ad H locs LS h1 h2 h3 h4 h5 h6 h7 h8 h9 h10 h11
  have ha : am_r32 a := h5 (vI a) (by simp)
  have hb9 : am_r32 0 := am_0r
  have e0 : (0 : Int32) = Int32.ofInt 0 := by decide
  have K := k ad H locs LS h1 h2 h3 h4 (fun w hw => h5 w (by simp [hw])) h6 h7 h8 h9 h10 h11
  cases cnd
  · refine lv_if_eq hx hb hdg ht (fun q => ?_) (fun q => ?_)
    · rw [e0] at q
      have q1 : a = 0 := (am_o_eq ha hb9).mp q
      have q2 : am_cmp .eq a 0 = true := by simp [am_cmp]; omega
      simp only [q2] at K
      exact K
    · rw [e0] at q
      have q1 : ¬ (a = 0) := fun z => q ((am_o_eq ha hb9).mpr z)
      have q2 : am_cmp .eq a 0 = false := by simp [am_cmp]; omega
      simp only [q2] at K
      exact K
  · refine lv_if_ne hx hb hdg ht (fun q => ?_) (fun q => ?_)
    · rw [e0] at q
      have q1 : ¬ a = 0 := fun z => q ((am_o_eq ha hb9).mpr z)
      have q2 : am_cmp .ne a 0 = true := by simp [am_cmp]; omega
      simp only [q2] at K
      exact K
    · rw [e0] at q
      have q1 : a = 0 := (am_o_eq ha hb9).mp q
      have q2 : am_cmp .ne a 0 = false := by simp [am_cmp]; omega
      simp only [q2] at K
      exact K
  · refine lv_if_lt hx hb hdg ht (fun q => ?_) (fun q => ?_)
    · rw [e0] at q
      have q1 : a < 0 := (am_o_lt ha hb9).mp q
      have q2 : am_cmp .lt a 0 = true := by simp [am_cmp]; omega
      simp only [q2] at K
      exact K
    · rw [e0] at q
      have q1 : ¬ (a < 0) := fun z => q ((am_o_lt ha hb9).mpr z)
      have q2 : am_cmp .lt a 0 = false := by simp [am_cmp]; omega
      simp only [q2] at K
      exact K
  · refine lv_if_ge hx hb hdg ht (fun q => ?_) (fun q => ?_)
    · rw [e0] at q
      have q1 : 0 ≤ a := (am_o_le hb9 ha).mp q
      have q2 : am_cmp .ge a 0 = true := by simp [am_cmp]; omega
      simp only [q2] at K
      exact K
    · rw [e0] at q
      have q1 : ¬ (0 ≤ a) := fun z => q ((am_o_le hb9 ha).mpr z)
      have q2 : am_cmp .ge a 0 = false := by simp [am_cmp]; omega
      simp only [q2] at K
      exact K
  · refine lv_if_gt hx hb hdg ht (fun q => ?_) (fun q => ?_)
    · rw [e0] at q
      have q1 : 0 < a := (am_o_lt hb9 ha).mp q
      have q2 : am_cmp .gt a 0 = true := by simp [am_cmp]; omega
      simp only [q2] at K
      exact K
    · rw [e0] at q
      have q1 : ¬ (0 < a) := fun z => q ((am_o_lt hb9 ha).mpr z)
      have q2 : am_cmp .gt a 0 = false := by simp [am_cmp]; omega
      simp only [q2] at K
      exact K
  · refine lv_if_le hx hb hdg ht (fun q => ?_) (fun q => ?_)
    · rw [e0] at q
      have q1 : a ≤ 0 := (am_o_le ha hb9).mp q
      have q2 : am_cmp .le a 0 = true := by simp [am_cmp]; omega
      simp only [q2] at K
      exact K
    · rw [e0] at q
      have q1 : ¬ (a ≤ 0) := fun z => q ((am_o_le ha hb9).mpr z)
      have q2 : am_cmp .le a 0 = false := by simp [am_cmp]; omega
      simp only [q2] at K
      exact K
theorem sm_icmp {cnd : Jvm.ClassFile.Cond} {pc tgt : Nat} {off : Int} {ls st : List am_V} {h : am_H} {a b : Int} (hx : p.tables.exec = Jvm.exec) (hb : c.code = cc) (hdg : decode cc pc = .ok (.if_icmp cnd off, 3)) (ht : (pc : Int) + off = (tgt : Int))
    (k : am_G p l e R s m args below meth c Q D ca ft A n0 z0 ad0 nL ((if am_cmp cnd a b then tgt else pc + 3), ls, st, h)) : am_G p l e R s m args below meth c Q D ca ft A n0 z0 ad0 nL (pc, ls, vI b :: vI a :: st, h) := by
  intro ad H locs LS h1 h2 h3 h4 h5 h6 h7 h8 h9 h10 h11
  have ha : am_r32 a := h5 (vI a) (by simp)
  have hb9 : am_r32 b := h5 (vI b) (by simp)
  have K := k ad H locs LS h1 h2 h3 h4 (fun w hw => h5 w (by simp [hw])) h6 h7 h8 h9 h10 h11
  cases cnd
  · refine lv_icmp_eq hx hb hdg ht (fun q => ?_) (fun q => ?_)
    · have q1 : a = b := (am_o_eq ha hb9).mp q
      have q2 : am_cmp .eq a b = true := by simp [am_cmp]; omega
      simp only [q2] at K
      exact K
    · have q1 : ¬ (a = b) := fun z => q ((am_o_eq ha hb9).mpr z)
      have q2 : am_cmp .eq a b = false := by simp [am_cmp]; omega
      simp only [q2] at K
      exact K
  · refine lv_icmp_ne hx hb hdg ht (fun q => ?_) (fun q => ?_)
    · have q1 : ¬ a = b := fun z => q ((am_o_eq ha hb9).mpr z)
      have q2 : am_cmp .ne a b = true := by simp [am_cmp]; omega
      simp only [q2] at K
      exact K
    · have q1 : a = b := (am_o_eq ha hb9).mp q
      have q2 : am_cmp .ne a b = false := by simp [am_cmp]; omega
      simp only [q2] at K
      exact K
  · refine lv_icmp_lt hx hb hdg ht (fun q => ?_) (fun q => ?_)
    · have q1 : a < b := (am_o_lt ha hb9).mp q
      have q2 : am_cmp .lt a b = true := by simp [am_cmp]; omega
      simp only [q2] at K
      exact K
    · have q1 : ¬ (a < b) := fun z => q ((am_o_lt ha hb9).mpr z)
      have q2 : am_cmp .lt a b = false := by simp [am_cmp]; omega
      simp only [q2] at K
      exact K
  · refine lv_icmp_ge hx hb hdg ht (fun q => ?_) (fun q => ?_)
    · have q1 : b ≤ a := (am_o_le hb9 ha).mp q
      have q2 : am_cmp .ge a b = true := by simp [am_cmp]; omega
      simp only [q2] at K
      exact K
    · have q1 : ¬ (b ≤ a) := fun z => q ((am_o_le hb9 ha).mpr z)
      have q2 : am_cmp .ge a b = false := by simp [am_cmp]; omega
      simp only [q2] at K
      exact K
  · refine lv_icmp_gt hx hb hdg ht (fun q => ?_) (fun q => ?_)
    · have q1 : b < a := (am_o_lt hb9 ha).mp q
      have q2 : am_cmp .gt a b = true := by simp [am_cmp]; omega
      simp only [q2] at K
      exact K
    · have q1 : ¬ (b < a) := fun z => q ((am_o_lt hb9 ha).mpr z)
      have q2 : am_cmp .gt a b = false := by simp [am_cmp]; omega
      simp only [q2] at K
      exact K
  · refine lv_icmp_le hx hb hdg ht (fun q => ?_) (fun q => ?_)
    · have q1 : a ≤ b := (am_o_le ha hb9).mp q
      have q2 : am_cmp .le a b = true := by simp [am_cmp]; omega
      simp only [q2] at K
      exact K
    · have q1 : ¬ (a ≤ b) := fun z => q ((am_o_le ha hb9).mpr z)
      have q2 : am_cmp .le a b = false := by simp [am_cmp]; omega
      simp only [q2] at K
      exact K
theorem sm_goto {pc tgt : Nat} {off : Int} {ls st : List am_V} {h : am_H} (hx : p.tables.exec = Jvm.exec) (hb : c.code = cc) (hdg : decode cc pc = .ok (.goto off, 3)) (ht : (pc : Int) + off = (tgt : Int)) (k : am_G p l e R s m args below meth c Q D ca ft A n0 z0 ad0 nL (tgt, ls, st, h)) : am_G p l e R s m args below meth c Q D ca ft A n0 z0 ad0 nL (pc, ls, st, h) := by
  intro ad H locs LS h1 h2 h3 h4 h5 h6 h7 h8 h9 h10 h11
  exact lv_goto hx hb hdg ht (k ad H locs LS h1 h2 h3 h4 h5 h6 h7 h8 h9 h10 h11)
theorem sm_sw1 {pc : Nat} {d lo hi : Int} {offs : Array Int} {len : Nat} {ls st : List am_V} {h : am_H} {a : Int} (hx : p.tables.exec = Jvm.exec) (hb : c.code = cc) (hdg : decode cc pc = .ok (.tableswitch d lo hi offs, len)) (ho : a < lo ∨ hi < a) (ht : 0 ≤ (pc : Int) + d) (k : am_G p l e R s m args below meth c Q D ca ft A n0 z0 ad0 nL (((pc : Int) + d).toNat, ls, st, h)) : am_G p l e R s m args below meth c Q D ca ft A n0 z0 ad0 nL (pc, ls, vI a :: st, h) := by
  intro ad H locs LS h1 h2 h3 h4 h5 h6 h7 h8 h9 h10 h11
  have ha : am_r32 a := h5 (vI a) (by simp)
  exact lv_tableOut hx hb hdg (by rw [am_tI ha]; exact ho) (by omega) (k ad H locs LS h1 h2 h3 h4 (fun w hw => h5 w (by simp [hw])) h6 h7 h8 h9 h10 h11)
theorem sm_sw2 {pc : Nat} {d lo hi o : Int} {offs : Array Int} {len : Nat} {ls st : List am_V} {h : am_H} {a : Int} (hx : p.tables.exec = Jvm.exec) (hb : c.code = cc) (hdg : decode cc pc = .ok (.tableswitch d lo hi offs, len)) (ho : ¬ (a < lo ∨ hi < a)) (hq : offs[(a - lo).toNat]? = some o) (ht : 0 ≤ (pc : Int) + o) (k : am_G p l e R s m args below meth c Q D ca ft A n0 z0 ad0 nL (((pc : Int) + o).toNat, ls, st, h)) : am_G p l e R s m args below meth c Q D ca ft A n0 z0 ad0 nL (pc, ls, vI a :: st, h) := by
  intro ad H locs LS h1 h2 h3 h4 h5 h6 h7 h8 h9 h10 h11
  have ha : am_r32 a := h5 (vI a) (by simp)
  exact lv_tableIn hx hb hdg (by rw [am_tI ha]; omega) (by rw [am_tI ha]; omega) (by rw [am_tI ha]; exact hq) (by omega) (k ad H locs LS h1 h2 h3 h4 (fun w hw => h5 w (by simp [hw])) h6 h7 h8 h9 h10 h11)
theorem am_ce_obj {ad : Nat → Nat} {ca : Nat → ClassId} {K : am_K} {x : Nat} (h : K.1 = 10 + x) : am_ce ad ca K = .inr (x, (List.range K.2.1).map (fun y => am_cv ad (K.2.2 y))) := by
  unfold am_ce
  rw [if_neg (by omega), if_neg (by omega), if_neg (by omega), h, Nat.add_sub_cancel_left]
theorem am_ce_i {ad : Nat → Nat} {ca : Nat → ClassId} {K : am_K} {k : Nat} (h : K.1 = k) (h2 : k < 2) : am_ce ad ca K = .inl (ca k, K.2.1, .inl (fun i => am_toI (K.2.2 i))) := by
  unfold am_ce
  rw [if_pos (by omega), h]
theorem am_ce_l {ad : Nat → Nat} {ca : Nat → ClassId} {K : am_K} (h : K.1 = 2) : am_ce ad ca K = .inl (ca 2, K.2.1, .inr (.inl (fun i => am_toL (K.2.2 i)))) := by
  unfold am_ce
  rw [if_neg (by omega), if_pos h]
theorem am_ce_q {ad : Nat → Nat} {ca : Nat → ClassId} {K : am_K} (h : 3 ≤ K.1) (h2 : K.1 < 7) : am_ce ad ca K = .inl (ca K.1, K.2.1, .inr (.inr (.inr (.inr (fun i => am_toR ad (K.2.2 i)))))) := by
  unfold am_ce
  rw [if_neg (by omega), if_neg (by omega), if_pos h2]
/-- a field's link and what the tables say of its class -/
def am_fl (own : String) (index x y : Nat) (Ts : List Cond) : Prop := ∃ (C : String) (T : u_T) (N : Nat), vwCl[x]? = some (C, T, N) ∧ y < N ∧ Cond.fieldLink own index (T y).1 (T y).2.1 (T y).2.2.1 ∈ Ts ∧ ∀ w ∈ u_ws C T N, w ∈ Ts
theorem am_vt_ne {n k : Nat} {v : am_V} (h : am_vt n k v) : v ≠ vU := by
  rintro rfl
  exact h.1
theorem am_gd_fld {h : am_H} {a x y : Nat} (hg : am_gd ft h) (ha : a < h.1) (hk : (h.2.2 a).1 = 10 + x) (hy : y < (h.2.2 a).2.1) : am_vt h.1 (ft x y) ((h.2.2 a).2.2 y) := by
  rcases hg a ha with q | q
  · omega
  · have := q.2 y hy
    rwa [hk, Nat.add_sub_cancel_left] at this
theorem am_gd_arr {h : am_H} {a : Nat} (hg : am_gd ft h) (ha : a < h.1) (hk : (h.2.2 a).1 < 7) (i : Nat) : am_vt h.1 (am_ek (h.2.2 a).1) ((h.2.2 a).2.2 i) := by
  rcases hg a ha with q | q
  · exact q.2.2 i
  · omega
theorem sm_gf {own : String} {Ts : List Cond} {pc index a x y : Nat} {ls st : List am_V} {h : am_H} (hx : p.tables.exec = Jvm.exec) (hb : c.code = cc) (hown : s.vm.findClass own = some m.cls) (hts : ∀ w ∈ Ts, w.before args s = true) (hK : va_K D vwCl (am_tys ca) s) (hdg : decode cc pc = .ok (.getfield index, 3)) (hf : am_fl own index x y Ts)
    (ha : a < h.1) (hk : (h.2.2 a).1 = 10 + x) (hy : y < (h.2.2 a).2.1) (k : am_G p l e R s m args below meth c Q D ca ft A n0 z0 ad0 nL (pc + 3, ls, (h.2.2 a).2.2 y :: st, h)) : am_G p l e R s m args below meth c Q D ca ft A n0 z0 ad0 nL (pc, ls, vR a :: st, h) := by
  intro ad H locs LS h1 h2 h3 h4 h5 h6 h7 h8 h9 h10 h11
  obtain ⟨C, T, N, f1, f2, f3, f4⟩ := hf
  have hv := am_gd_fld h4 ha hk hy
  refine va_get hx hb hts f4 hown hK h7 a ((am_ws_at ha).trans (by rw [am_ce_obj hk])) f1 y f2 (hts _ f3) (fun _ q => q) (v := am_cv ad ((h.2.2 a).2.2 y)) ?_ hdg (k ad H locs LS h1 h2 h3 h4 (fun w hw => (List.mem_cons.mp hw).elim (fun q => by rw [q]; exact hv.1) (fun q => h5 w (List.mem_cons_of_mem _ q))) h6 h7 h8 h9 h10 h11)
  rw [List.getElem?_map, List.getElem?_range hy]
  rfl
/-- a kind of values and a type -/
def am_tk (k : Nat) (ty : FieldType) : Bool := match k, ty with
  | 0, .int => true
  | 1, .boolean => true
  | 2, .long => true
  | 3, .array _ => true
  | 3, .object _ => true
  | _, _ => false
theorem am_fit {ad : Nat → Nat} {n k : Nat} {v : am_V} {ty : FieldType} (hv : am_vk n v) (hf : am_fok k v = true) (ht : am_tk k ty = true) : narrow ty (am_cv ad v) = am_cv ad v ∧ fits ty (am_cv ad v) = true := by
  rcases v with (x | x) | _ | _ | a
  · have : (k = 0) ∨ (k = 1 ∧ (x = 0 ∨ x = 1)) := by simpa [am_fok] using hf
    rcases this with rfl | ⟨rfl, rfl | rfl⟩
    · cases ty <;> first | (cases ht; done) | exact ⟨rfl, rfl⟩
    · cases ty <;> first | (cases ht; done) | exact ⟨(by decide : narrow .boolean (.int (Int32.ofInt 0)) = .int (Int32.ofInt 0)), (by decide : fits .boolean (.int (Int32.ofInt 0)) = true)⟩
    · cases ty <;> first | (cases ht; done) | exact ⟨(by decide : narrow .boolean (.int (Int32.ofInt 1)) = .int (Int32.ofInt 1)), (by decide : fits .boolean (.int (Int32.ofInt 1)) = true)⟩
  · have : k = 2 := by simpa [am_fok] using hf
    subst this
    cases ty <;> first | (cases ht; done) | exact ⟨rfl, rfl⟩
  · exact hv.elim
  · have : k = 3 := by simpa [am_fok] using hf
    subst this
    cases ty <;> first | (cases ht; done) | exact ⟨rfl, rfl⟩
  · have : k = 3 := by simpa [am_fok] using hf
    subst this
    cases ty <;> first | (cases ht; done) | exact ⟨rfl, rfl⟩
theorem am_gd_wr {h : am_H} {a i : Nat} {v : am_V} (hg : am_gd ft h) (hc : am_ckd ft h.1 ((h.2.2 a).1, (h.2.2 a).2.1, am_up (h.2.2 a).2.2 i v)) : am_gd ft (am_wr h a i v) := by
  intro k hk
  show am_ckd ft h.1 (am_up h.2.2 a _ k)
  unfold am_up
  by_cases e : k = a
  · rw [if_pos e]
    exact hc
  · rw [if_neg e]
    exact hg k hk
theorem am_map_set {ad : Nat → Nat} {n y : Nat} {f : Nat → am_V} {v : am_V} : (List.range n).map (fun j => am_cv ad (am_up f y v j)) = ((List.range n).map (fun j => am_cv ad (f j))).set y (am_cv ad v) := by
  apply List.ext_getElem?
  intro i
  rw [List.getElem?_set, List.getElem?_map, List.getElem?_map]
  by_cases hi : i < n
  · rw [List.getElem?_range hi]
    by_cases e : y = i
    · subst e
      simp [am_up, hi]
    · simp [am_up, e, Ne.symm e]
  · have : (List.range n)[i]? = none := List.getElem?_eq_none (by simp; omega)
    rw [this]
    by_cases e : y = i
    · subst e
      simp [hi]
    · simp [e]
/-- behind a write of a field or an element -/
theorem am_put_go {pc2 a i : Nat} {ls st us : List am_V} {h : am_H} {v : am_V} {ad : Nat → Nat} {H : Heap} {locs : List Loc} {LS : Array Slot} {e1 : va_E} (h1 : ∀ k, k < n0 → ad k = ad0 k) (h2 : n0 ≤ h.1) (h3 : z0 ≤ h.2.1) (h5 : ∀ w ∈ us ++ st, am_vk h.1 w) (h6 : ∀ w ∈ ls, w = vU ∨ am_vk h.1 w) (h10 : am_LR ad ls LS) (h11 : ls.length = nL) (ha : a < h.1) (hc : am_gd ft (am_wr h a i v))
    (he : am_ce ad ca ((h.2.2 a).1, (h.2.2 a).2.1, am_up (h.2.2 a).2.2 i v) = e1) (k : am_G p l e R s m args below meth c Q D ca ft A n0 z0 ad0 nL (pc2, ls, st, am_wr h a i v))
    (hP : va_P D vwCl ((am_ws ad ca h).set a (ad a, e1)) H) (hD : va_D A ((am_ws ad ca h).set a (ad a, e1))) (hS : va_S A s.heap H locs) : W p l e R s m args below meth c H locs (h.1 - n0) (h.2.1 - z0) Q (F0 m pc2 LS (st.map (am_cv ad))) := by
  have e : am_ws ad ca (am_wr h a i v) = (am_ws ad ca h).set a (ad a, e1) := am_ws_set ha he
  rw [← e] at hP hD
  exact k ad H locs LS h1 h2 h3 hc (fun w hw => h5 w (List.mem_append_right _ hw)) h6 hP hD hS h10 h11
theorem sm_pf {own : String} {Ts : List Cond} {pc index a x y : Nat} {ls st : List am_V} {h : am_H} {v : am_V} {C : String} {T : u_T} {N : Nat} (tyf : Nat → FieldType) (hx : p.tables.exec = Jvm.exec) (hb : c.code = cc) (hown : s.vm.findClass own = some m.cls) (hts : ∀ w ∈ Ts, w.before args s = true) (hK : va_K D vwCl (am_tys ca) s) (hdg : decode cc pc = .ok (.putfield index, 3))
    (f1 : vwCl[x]? = some (C, T, N)) (f2 : y < N) (f3 : Cond.fieldLink own index (T y).1 (T y).2.1 (T y).2.2.1 ∈ Ts) (f4 : ∀ w ∈ u_ws C T N, w ∈ Ts) (f5 : ∀ k, k < N → parseFieldDescriptor (T k).2.2.1 = some (tyf k)) (f6 : ∀ a, a < N → ∀ b, b < N → a ≠ b → (T a).2.1 ≠ (T b).2.1) (f7 : am_tk (ft x y) (tyf y) = true)
    (f8 : (T y).2.2.2 = false ∨ ((T y).2.2.2 = true ∧ meth.name = "<init>" ∧ (T y).1 = own))
    (ha : a < h.1) (hk : (h.2.2 a).1 = 10 + x) (hy : y < (h.2.2 a).2.1) (hv : am_fok (ft x y) v = true) (k : am_G p l e R s m args below meth c Q D ca ft A n0 z0 ad0 nL (pc + 3, ls, st, am_wr h a y v)) : am_G p l e R s m args below meth c Q D ca ft A n0 z0 ad0 nL (pc, ls, v :: vR a :: st, h) := by
  intro ad H locs LS h1 h2 h3 h4 h5 h6 h7 h8 h9 h10 h11
  have hvk : am_vk h.1 v := h5 v (by simp)
  obtain ⟨g1, g2⟩ := am_fit (ad := ad) hvk hv f7
  have he : am_ce ad ca ((h.2.2 a).1, (h.2.2 a).2.1, am_up (h.2.2 a).2.2 y v) = .inr (x, ((List.range (h.2.2 a).2.1).map (fun j => am_cv ad ((h.2.2 a).2.2 j))).set y (am_cv ad v)) := (am_ce_obj (K := ((h.2.2 a).1, (h.2.2 a).2.1, am_up (h.2.2 a).2.2 y v)) hk).trans (congrArg (fun z => (Sum.inr (x, z) : va_E)) am_map_set)
  have hc : am_gd ft (am_wr h a y v) := am_gd_wr h4 (Or.inr ⟨by omega, fun i hi => by
    show am_vt h.1 (ft ((h.2.2 a).1 - 10) i) (am_up (h.2.2 a).2.2 y v i)
    rw [hk, Nat.add_sub_cancel_left]
    unfold am_up
    by_cases e : i = y
    · rw [if_pos e, e]
      exact ⟨hvk, hv⟩
    · rw [if_neg e]
      exact am_gd_fld h4 ha hk hi⟩)
  have hl : y < ((List.range (h.2.2 a).2.1).map (fun j => am_cv ad ((h.2.2 a).2.2 j))).length := by simpa using hy
  rcases f8 with f8 | ⟨f8, f9, f10⟩
  · exact va_put hx hb hts f4 tyf f5 f6 hown hK h7 h8 h9 a ((am_ws_at ha).trans (by rw [am_ce_obj hk])) f1 y f2 (hts _ f3) (fun _ q => q) f8 (f5 y f2) g1 g2 hl hdg (fun H1 locs1 hP hD hS => am_put_go (us := [v, vR a]) h1 h2 h3 h5 h6 h10 h11 ha hc he k hP hD hS)
  · exact va_putF hx hb hts f4 tyf f5 f6 hown hK h7 h8 h9 a ((am_ws_at ha).trans (by rw [am_ce_obj hk])) f1 y f2 (hts _ f3) (fun _ q => q) f8 f9 f10 (f5 y f2) g1 g2 hl hdg (fun H1 locs1 hP hD hS => am_put_go (us := [v, vR a]) h1 h2 h3 h5 h6 h10 h11 ha hc he k hP hD hS)
end SM
end
section
/-! Arrays. -/
section SM
variable {p : Program} {l : Launch} {e : Env} {R : Room} {s : State} {m : MethodId} {args : Array Value} {below : List Frame} {meth : Method} {c : Code} {Q : State → Prop} {D : va_G} {ca : Nat → ClassId} {ft : am_ft} {A : Nat → Prop} {n0 z0 : Nat} {ad0 : Nat → Nat} {nL : Nat} {cc : ByteArray}
theorem am_cv_I {ad : Nat → Nat} {v : am_V} {n k : Nat} (hk : k < 2) (h : am_vt n k v) : am_cv ad v = .int (am_toI v) := by
  obtain ⟨h1, h2⟩ := h
  rcases v with (x | x) | _ | _ | a
  · rfl
  · have : k = 2 := by simpa [am_fok] using h2
    omega
  · exact h1.elim
  · have : k = 3 := by simpa [am_fok] using h2
    omega
  · have : k = 3 := by simpa [am_fok] using h2
    omega
theorem am_cv_iald {ad : Nat → Nat} {v : am_V} {n : Nat} (h : am_vt n 0 v) : am_cv ad v = .int (am_toI v) := am_cv_I (by omega) h
theorem am_cv_zald {ad : Nat → Nat} {v : am_V} {n : Nat} (h : am_vt n 1 v) : am_cv ad v = .int (am_toI v) := am_cv_I (by omega) h
theorem am_cv_lald {ad : Nat → Nat} {v : am_V} {n : Nat} (h : am_vt n 2 v) : am_cv ad v = .long (am_toL v) := by
  obtain ⟨h1, h2⟩ := h
  rcases v with (x | x) | _ | _ | a
  · simp [am_fok] at h2
  · rfl
  · exact h1.elim
  · simp [am_fok] at h2
  · simp [am_fok] at h2
theorem am_cv_aald {ad : Nat → Nat} {v : am_V} {n : Nat} (h : am_vt n 3 v) : am_cv ad v = va_rf (am_toR ad v) := by
  obtain ⟨h1, h2⟩ := h
  rcases v with (x | x) | _ | _ | a
  · simp [am_fok] at h2
  · simp [am_fok] at h2
  · exact h1.elim
  · rfl
  · rfl
theorem am_nar {v : am_V} {n : Nat} (h1 : am_vk n v) (h2 : am_fok 1 v = true) : vp_nar .boolean (am_toI v) = am_toI v := by
  rcases v with (x | x) | _ | _ | a
  · have : x = 0 ∨ x = 1 := by simpa [am_fok] using h2
    rcases this with rfl | rfl
    · exact (by decide : vp_nar .boolean (Int32.ofInt 0) = Int32.ofInt 0)
    · exact (by decide : vp_nar .boolean (Int32.ofInt 1) = Int32.ofInt 1)
  · simp [am_fok] at h2
  · exact h1.elim
  · simp [am_fok] at h2
  · simp [am_fok] at h2
theorem sm_iald {pc a : Nat} {i : Int} {ls st : List am_V} {h : am_H} (hx : p.tables.exec = Jvm.exec) (hb : c.code = cc) (hK : va_K D vwCl (am_tys ca) s) (hdg : decode cc pc = .ok (.iaload, 1)) (ha : a < h.1) (hk : (h.2.2 a).1 = 0) (h0 : 0 ≤ i) (hi : i < ((h.2.2 a).2.1 : Int)) (k : am_G p l e R s m args below meth c Q D ca ft A n0 z0 ad0 nL (pc + 1, ls, (h.2.2 a).2.2 i.toNat :: st, h)) : am_G p l e R s m args below meth c Q D ca ft A n0 z0 ad0 nL (pc, ls, vI i :: vR a :: st, h) := by
  intro ad H locs LS h1 h2 h3 h4 h5 h6 h7 h8 h9 h10 h11
  have h4 : am_gd ft h := h4
  have hv := am_gd_arr h4 ha (by omega) i.toNat
  rw [hk] at hv
  obtain ⟨q1, q2⟩ := am_o_ix h0 hi (h5 (vI i) (by simp))
  refine va_iald hx hb hK h7 a 0 ((am_ws_at ha).trans (by rw [am_ce_i hk (by omega)])) (am_tys_at ca (k := 0) (by omega)) q1 hdg ?_
  rw [q2, show (Value.int <| am_toI ((h.2.2 a).2.2 i.toNat)) = am_cv ad ((h.2.2 a).2.2 i.toNat) from (am_cv_iald hv).symm]
  exact k ad H locs LS h1 h2 h3 h4 (fun w hw => (List.mem_cons.mp hw).elim (fun q => by rw [q]; exact hv.1) (fun q => h5 w (by simp [q]))) h6 h7 h8 h9 h10 h11
theorem sm_zald {pc a : Nat} {i : Int} {ls st : List am_V} {h : am_H} (hx : p.tables.exec = Jvm.exec) (hb : c.code = cc) (hK : va_K D vwCl (am_tys ca) s) (hdg : decode cc pc = .ok (.baload, 1)) (ha : a < h.1) (hk : (h.2.2 a).1 = 1) (h0 : 0 ≤ i) (hi : i < ((h.2.2 a).2.1 : Int)) (k : am_G p l e R s m args below meth c Q D ca ft A n0 z0 ad0 nL (pc + 1, ls, (h.2.2 a).2.2 i.toNat :: st, h)) : am_G p l e R s m args below meth c Q D ca ft A n0 z0 ad0 nL (pc, ls, vI i :: vR a :: st, h) := by
  intro ad H locs LS h1 h2 h3 h4 h5 h6 h7 h8 h9 h10 h11
  have h4 : am_gd ft h := h4
  have hv := am_gd_arr h4 ha (by omega) i.toNat
  rw [hk] at hv
  obtain ⟨q1, q2⟩ := am_o_ix h0 hi (h5 (vI i) (by simp))
  refine va_zald hx hb hK h7 a 1 ((am_ws_at ha).trans (by rw [am_ce_i hk (by omega)])) (am_tys_at ca (k := 1) (by omega)) q1 hdg ?_
  rw [q2, show (Value.int <| am_toI ((h.2.2 a).2.2 i.toNat)) = am_cv ad ((h.2.2 a).2.2 i.toNat) from (am_cv_zald hv).symm]
  exact k ad H locs LS h1 h2 h3 h4 (fun w hw => (List.mem_cons.mp hw).elim (fun q => by rw [q]; exact hv.1) (fun q => h5 w (by simp [q]))) h6 h7 h8 h9 h10 h11
theorem sm_lald {pc a : Nat} {i : Int} {ls st : List am_V} {h : am_H} (hx : p.tables.exec = Jvm.exec) (hb : c.code = cc) (hK : va_K D vwCl (am_tys ca) s) (hdg : decode cc pc = .ok (.laload, 1)) (ha : a < h.1) (hk : (h.2.2 a).1 = 2) (h0 : 0 ≤ i) (hi : i < ((h.2.2 a).2.1 : Int)) (k : am_G p l e R s m args below meth c Q D ca ft A n0 z0 ad0 nL (pc + 1, ls, (h.2.2 a).2.2 i.toNat :: st, h)) : am_G p l e R s m args below meth c Q D ca ft A n0 z0 ad0 nL (pc, ls, vI i :: vR a :: st, h) := by
  intro ad H locs LS h1 h2 h3 h4 h5 h6 h7 h8 h9 h10 h11
  have h4 : am_gd ft h := h4
  have hv := am_gd_arr h4 ha (by omega) i.toNat
  rw [hk] at hv
  obtain ⟨q1, q2⟩ := am_o_ix h0 hi (h5 (vI i) (by simp))
  refine va_lald hx hb hK h7 a 2 ((am_ws_at ha).trans (by rw [am_ce_l hk])) (am_tys_at ca (k := 2) (by omega)) q1 hdg ?_
  rw [q2, show (Value.long <| am_toL ((h.2.2 a).2.2 i.toNat)) = am_cv ad ((h.2.2 a).2.2 i.toNat) from (am_cv_lald hv).symm]
  exact k ad H locs LS h1 h2 h3 h4 (fun w hw => (List.mem_cons.mp hw).elim (fun q => by rw [q]; exact hv.1) (fun q => h5 w (by simp [q]))) h6 h7 h8 h9 h10 h11
theorem sm_iast {pc a : Nat} {i : Int} {ls st : List am_V} {h : am_H} {v : am_V} (hx : p.tables.exec = Jvm.exec) (hb : c.code = cc) (hK : va_K D vwCl (am_tys ca) s) (hdg : decode cc pc = .ok (.iastore, 1)) (ha : a < h.1) (hk : (h.2.2 a).1 = 0) (hf : am_fok 0 v = true) (h0 : 0 ≤ i) (hi : i < ((h.2.2 a).2.1 : Int)) (k : am_G p l e R s m args below meth c Q D ca ft A n0 z0 ad0 nL (pc + 1, ls, st, am_wr h a i.toNat v)) : am_G p l e R s m args below meth c Q D ca ft A n0 z0 ad0 nL (pc, ls, v :: vI i :: vR a :: st, h) := by
  intro ad H locs LS h1 h2 h3 h4 h5 h6 h7 h8 h9 h10 h11
  have h4 : am_gd ft h := h4
  have hvk : am_vk h.1 v := h5 v (by simp)
  obtain ⟨q1, q2⟩ := am_o_ix h0 hi (h5 (vI i) (by simp))
  have hc : am_gd ft (am_wr h a i.toNat v) := am_gd_wr h4 (by
    rcases h4 a ha with q | q
    · refine Or.inl ⟨q.1, q.2.1, fun j => ?_⟩
      show am_vt h.1 (am_ek (h.2.2 a).1) (am_up (h.2.2 a).2.2 i.toNat v j)
      unfold am_up
      by_cases e : j = i.toNat
      · rw [if_pos e, hk]
        exact ⟨hvk, hf⟩
      · rw [if_neg e]
        exact q.2.2 j
    · omega)
  have he : am_ce ad ca ((h.2.2 a).1, (h.2.2 a).2.1, am_up (h.2.2 a).2.2 i.toNat v) = .inl (ca 0, (h.2.2 a).2.1, .inl (upd (fun j => am_toI ((h.2.2 a).2.2 j)) i.toNat (am_toI v))) := by
    rw [am_ce_i (K := ((h.2.2 a).1, (h.2.2 a).2.1, am_up (h.2.2 a).2.2 i.toNat v)) hk (by omega)]
    refine congrArg (fun z => (Sum.inl (ca 0, (h.2.2 a).2.1, .inl z) : va_E)) (funext fun j => ?_)
    show am_toI (am_up _ _ _ j) = upd _ _ _ j
    unfold am_up upd
    by_cases e : j = i.toNat
    · rw [if_pos e, if_pos e]
    · rw [if_neg e, if_neg e]
  rw [show ((v :: vI i :: vR a :: st).map (am_cv ad)) = .int (am_toI v) :: .int (Int32.ofInt i) :: .ref (ad a) :: st.map (am_cv ad) by rw [List.map_cons, am_cv_iald ⟨hvk, hf⟩]; rfl]
  refine va_iast hx hb hK h7 h8 h9 a 0 ((am_ws_at ha).trans (by rw [am_ce_i hk (by omega)])) (am_tys_at ca (k := 0) (by omega)) q1 hdg (fun H1 locs1 hP hD hS => ?_)
  rw [q2] at hP hD
  exact am_put_go (us := [v, vI i, vR a]) h1 h2 h3 h5 h6 h10 h11 ha hc he k hP hD hS
theorem sm_zast {pc a : Nat} {i : Int} {ls st : List am_V} {h : am_H} {v : am_V} (hx : p.tables.exec = Jvm.exec) (hb : c.code = cc) (hK : va_K D vwCl (am_tys ca) s) (hdg : decode cc pc = .ok (.bastore, 1)) (ha : a < h.1) (hk : (h.2.2 a).1 = 1) (hf : am_fok 1 v = true) (h0 : 0 ≤ i) (hi : i < ((h.2.2 a).2.1 : Int)) (k : am_G p l e R s m args below meth c Q D ca ft A n0 z0 ad0 nL (pc + 1, ls, st, am_wr h a i.toNat v)) : am_G p l e R s m args below meth c Q D ca ft A n0 z0 ad0 nL (pc, ls, v :: vI i :: vR a :: st, h) := by
  intro ad H locs LS h1 h2 h3 h4 h5 h6 h7 h8 h9 h10 h11
  have h4 : am_gd ft h := h4
  have hvk : am_vk h.1 v := h5 v (by simp)
  obtain ⟨q1, q2⟩ := am_o_ix h0 hi (h5 (vI i) (by simp))
  have hc : am_gd ft (am_wr h a i.toNat v) := am_gd_wr h4 (by
    rcases h4 a ha with q | q
    · refine Or.inl ⟨q.1, q.2.1, fun j => ?_⟩
      show am_vt h.1 (am_ek (h.2.2 a).1) (am_up (h.2.2 a).2.2 i.toNat v j)
      unfold am_up
      by_cases e : j = i.toNat
      · rw [if_pos e, hk]
        exact ⟨hvk, hf⟩
      · rw [if_neg e]
        exact q.2.2 j
    · omega)
  have he : am_ce ad ca ((h.2.2 a).1, (h.2.2 a).2.1, am_up (h.2.2 a).2.2 i.toNat v) = .inl (ca 1, (h.2.2 a).2.1, .inl (upd (fun j => am_toI ((h.2.2 a).2.2 j)) i.toNat (am_toI v))) := by
    rw [am_ce_i (K := ((h.2.2 a).1, (h.2.2 a).2.1, am_up (h.2.2 a).2.2 i.toNat v)) hk (by omega)]
    refine congrArg (fun z => (Sum.inl (ca 1, (h.2.2 a).2.1, .inl z) : va_E)) (funext fun j => ?_)
    show am_toI (am_up _ _ _ j) = upd _ _ _ j
    unfold am_up upd
    by_cases e : j = i.toNat
    · rw [if_pos e, if_pos e]
    · rw [if_neg e, if_neg e]
  rw [show ((v :: vI i :: vR a :: st).map (am_cv ad)) = .int (am_toI v) :: .int (Int32.ofInt i) :: .ref (ad a) :: st.map (am_cv ad) by rw [List.map_cons, am_cv_zald ⟨hvk, hf⟩]; rfl]
  refine va_zast hx hb hK h7 h8 h9 a 1 ((am_ws_at ha).trans (by rw [am_ce_i hk (by omega)])) (am_tys_at ca (k := 1) (by omega)) q1 hdg (fun H1 locs1 hP hD hS => ?_)
  rw [q2, am_nar hvk hf] at hP hD
  exact am_put_go (us := [v, vI i, vR a]) h1 h2 h3 h5 h6 h10 h11 ha hc he k hP hD hS
theorem sm_last {pc a : Nat} {i : Int} {ls st : List am_V} {h : am_H} {v : am_V} (hx : p.tables.exec = Jvm.exec) (hb : c.code = cc) (hK : va_K D vwCl (am_tys ca) s) (hdg : decode cc pc = .ok (.lastore, 1)) (ha : a < h.1) (hk : (h.2.2 a).1 = 2) (hf : am_fok 2 v = true) (h0 : 0 ≤ i) (hi : i < ((h.2.2 a).2.1 : Int)) (k : am_G p l e R s m args below meth c Q D ca ft A n0 z0 ad0 nL (pc + 1, ls, st, am_wr h a i.toNat v)) : am_G p l e R s m args below meth c Q D ca ft A n0 z0 ad0 nL (pc, ls, v :: vI i :: vR a :: st, h) := by
  intro ad H locs LS h1 h2 h3 h4 h5 h6 h7 h8 h9 h10 h11
  have h4 : am_gd ft h := h4
  have hvk : am_vk h.1 v := h5 v (by simp)
  obtain ⟨q1, q2⟩ := am_o_ix h0 hi (h5 (vI i) (by simp))
  have hc : am_gd ft (am_wr h a i.toNat v) := am_gd_wr h4 (by
    rcases h4 a ha with q | q
    · refine Or.inl ⟨q.1, q.2.1, fun j => ?_⟩
      show am_vt h.1 (am_ek (h.2.2 a).1) (am_up (h.2.2 a).2.2 i.toNat v j)
      unfold am_up
      by_cases e : j = i.toNat
      · rw [if_pos e, hk]
        exact ⟨hvk, hf⟩
      · rw [if_neg e]
        exact q.2.2 j
    · omega)
  have he : am_ce ad ca ((h.2.2 a).1, (h.2.2 a).2.1, am_up (h.2.2 a).2.2 i.toNat v) = .inl (ca 2, (h.2.2 a).2.1, .inr <| .inl (vp_updL (fun j => am_toL ((h.2.2 a).2.2 j)) i.toNat (am_toL v))) := by
    rw [am_ce_l (K := ((h.2.2 a).1, (h.2.2 a).2.1, am_up (h.2.2 a).2.2 i.toNat v)) hk]
    refine congrArg (fun z => (Sum.inl (ca 2, (h.2.2 a).2.1, .inr <| .inl z) : va_E)) (funext fun j => ?_)
    show am_toL (am_up _ _ _ j) = vp_updL _ _ _ j
    unfold am_up vp_updL
    by_cases e : j = i.toNat
    · rw [if_pos e, if_pos e]
    · rw [if_neg e, if_neg e]
  rw [show ((v :: vI i :: vR a :: st).map (am_cv ad)) = .long (am_toL v) :: .int (Int32.ofInt i) :: .ref (ad a) :: st.map (am_cv ad) by rw [List.map_cons, am_cv_lald ⟨hvk, hf⟩]; rfl]
  refine va_last hx hb hK h7 h8 h9 a 2 ((am_ws_at ha).trans (by rw [am_ce_l hk])) (am_tys_at ca (k := 2) (by omega)) q1 hdg (fun H1 locs1 hP hD hS => ?_)
  rw [q2] at hP hD
  exact am_put_go (us := [v, vI i, vR a]) h1 h2 h3 h5 h6 h10 h11 ha hc he k hP hD hS
theorem am_ek_q {k : Nat} (h : 3 ≤ k) : am_ek k = 3 := by
  unfold am_ek
  split <;> omega
theorem sm_aald {pc a : Nat} {i : Int} {ls st : List am_V} {h : am_H} (hx : p.tables.exec = Jvm.exec) (hb : c.code = cc) (hK : va_K D vwCl (am_tys ca) s) (hdg : decode cc pc = .ok (.aaload, 1)) (ha : a < h.1) (hk : 3 ≤ (h.2.2 a).1) (hk7 : (h.2.2 a).1 < 7) (h0 : 0 ≤ i) (hi : i < ((h.2.2 a).2.1 : Int)) (k : am_G p l e R s m args below meth c Q D ca ft A n0 z0 ad0 nL (pc + 1, ls, (h.2.2 a).2.2 i.toNat :: st, h)) : am_G p l e R s m args below meth c Q D ca ft A n0 z0 ad0 nL (pc, ls, vI i :: vR a :: st, h) := by
  intro ad H locs LS h1 h2 h3 h4 h5 h6 h7 h8 h9 h10 h11
  have h4 : am_gd ft h := h4
  have hv := am_gd_arr h4 ha hk7 i.toNat
  rw [am_ek_q hk] at hv
  obtain ⟨q1, q2⟩ := am_o_ix h0 hi (h5 (vI i) (by simp))
  have hlt : (Int32.ofInt i).toNatClampNeg < (h.2.2 a).2.1 := Nat.not_le.mp fun q => q1 (Or.inr q)
  have hw : (am_ws ad ca h)[a]? = some (ad a, .inl (ca (h.2.2 a).1, (h.2.2 a).2.1, .inr (.inr (.inr (.inr (fun j => am_toR ad ((h.2.2 a).2.2 j))))))) := (am_ws_at ha).trans (by rw [am_ce_q hk hk7])
  have ht := am_tys_at ca (k := (h.2.2 a).1) hk7
  refine W.aald (v := va_rf (am_toR ad ((h.2.2 a).2.2 (Int32.ofInt i).toNatClampNeg))) (ty := am_ty (h.2.2 a).1) hx hb (h7 a _ hw) ((hK.2 (h.2.2 a).1 _ ht).1 (h.2.2 a).2.1 (fun j => va_rf (am_toR ad ((h.2.2 a).2.2 j)))) (by
    unfold am_ty
    split <;> first | rfl | omega) (fun q => by cases q) (by show ¬ (Int32.ofInt i < 0 ∨ (arrV _ _ _).slots.size ≤ _); rw [arrV_size]; exact q1) (by show (arrV _ _ _).slots[_]? = _; rw [arrV_read _ _ hlt]) rfl rfl hdg ?_
  rw [q2, ← am_cv_aald hv]
  exact k ad H locs LS h1 h2 h3 h4 (fun w hw => (List.mem_cons.mp hw).elim (fun q => by rw [q]; exact hv.1) (fun q => h5 w (by simp [q]))) h6 h7 h8 h9 h10 h11
theorem sm_aast {pc a b ci : Nat} {r : vw_C} {i : Int} {ls st : List am_V} {h : am_H} (hx : p.tables.exec = Jvm.exec) (hb : c.code = cc) (hK : va_K D vwCl (am_tys ca) s) (hdg : decode cc pc = .ok (.aastore, 1)) (ha : a < h.1) (hb2 : b < h.1) (hk : 3 ≤ (h.2.2 a).1) (hk7 : (h.2.2 a).1 < 7) (hr : vwCl[ci]? = some r) (hty : am_ty (h.2.2 a).1 = .object r.1) (hkb : (h.2.2 b).1 = 10 + ci) (h0 : 0 ≤ i) (hi : i < ((h.2.2 a).2.1 : Int)) (k : am_G p l e R s m args below meth c Q D ca ft A n0 z0 ad0 nL (pc + 1, ls, st, am_wr h a i.toNat (vR b))) : am_G p l e R s m args below meth c Q D ca ft A n0 z0 ad0 nL (pc, ls, vR b :: vI i :: vR a :: st, h) := by
  intro ad H locs LS h1 h2 h3 h4 h5 h6 h7 h8 h9 h10 h11
  have h4 : am_gd ft h := h4
  obtain ⟨q1, q2⟩ := am_o_ix h0 hi (h5 (vI i) (by simp))
  have hc : am_gd ft (am_wr h a i.toNat (vR b)) := am_gd_wr h4 (by
    rcases h4 a ha with q | q
    · refine Or.inl ⟨q.1, q.2.1, fun j => ?_⟩
      show am_vt h.1 (am_ek (h.2.2 a).1) (am_up (h.2.2 a).2.2 i.toNat (vR b) j)
      unfold am_up
      by_cases e : j = i.toNat
      · rw [if_pos e, am_ek_q hk]
        exact ⟨hb2, rfl⟩
      · rw [if_neg e]
        exact q.2.2 j
    · omega)
  have he : am_ce ad ca ((h.2.2 a).1, (h.2.2 a).2.1, am_up (h.2.2 a).2.2 i.toNat (vR b)) = .inl (ca (h.2.2 a).1, (h.2.2 a).2.1, .inr (.inr (.inr (.inr (va_up (fun j => am_toR ad ((h.2.2 a).2.2 j)) i.toNat (some (ad b))))))) := by
    rw [am_ce_q (K := ((h.2.2 a).1, (h.2.2 a).2.1, am_up (h.2.2 a).2.2 i.toNat (vR b))) hk hk7]
    refine congrArg (fun z => (Sum.inl (ca (h.2.2 a).1, (h.2.2 a).2.1, .inr (.inr (.inr (.inr z)))) : va_E)) (funext fun j => ?_)
    show am_toR ad (am_up _ _ _ j) = va_up _ _ _ j
    unfold am_up va_up
    by_cases e : j = i.toNat
    · rw [if_pos e, if_pos e]
      rfl
    · rw [if_neg e, if_neg e]
  have hw : (am_ws ad ca h)[a]? = some (ad a, .inl (ca (h.2.2 a).1, (h.2.2 a).2.1, .inr (.inr (.inr (.inr (fun j => am_toR ad ((h.2.2 a).2.2 j))))))) := (am_ws_at ha).trans (by rw [am_ce_q hk hk7])
  have ht := am_tys_at ca (k := (h.2.2 a).1) hk7
  rw [hty] at ht
  refine va_astq hx hb hK h7 h8 h9 a (h.2.2 a).1 b ci hw ht ((am_ws_at hb2).trans (by rw [am_ce_obj hkb])) hr q1 hdg (fun H1 locs1 hP hD hS => ?_)
  rw [q2] at hP hD
  exact am_put_go (us := [vR b, vI i, vR a]) h1 h2 h3 h5 h6 h10 h11 ha hc he k hP hD hS
theorem sm_len {pc a : Nat} {ls st : List am_V} {h : am_H} (hx : p.tables.exec = Jvm.exec) (hb : c.code = cc) (hK : va_K D vwCl (am_tys ca) s) (hdg : decode cc pc = .ok (.arraylength, 1)) (ha : a < h.1) (hk7 : (h.2.2 a).1 < 7) (k : am_G p l e R s m args below meth c Q D ca ft A n0 z0 ad0 nL (pc + 1, ls, vI ((h.2.2 a).2.1 : Int) :: st, h)) : am_G p l e R s m args below meth c Q D ca ft A n0 z0 ad0 nL (pc, ls, vR a :: st, h) := by
  intro ad H locs LS h1 h2 h3 h4 h5 h6 h7 h8 h9 h10 h11
  have h4 : am_gd ft h := h4
  have hn : (h.2.2 a).2.1 ≤ 1024 := by
    rcases h4 a ha with q | q
    · exact q.2.1
    · omega
  have hr : am_r32 ((h.2.2 a).2.1 : Int) := by unfold am_r32; omega
  have ht := am_tys_at ca (k := (h.2.2 a).1) hk7
  have K := k ad H locs LS h1 h2 h3 h4 (fun w hw => (List.mem_cons.mp hw).elim (fun q => by rw [q]; exact hr) (fun q => h5 w (by simp [q]))) h6 h7 h8 h9 h10 h11
  have e : Int32.ofNat (h.2.2 a).2.1 = Int32.ofInt ((h.2.2 a).2.1 : Int) := Int32.toInt_inj.mp (by rw [am_tI hr]; exact nI_toInt (by omega))
  have hw := am_ws_at (ad := ad) (ca := ca) ha
  by_cases q1 : (h.2.2 a).1 < 2
  · rw [am_ce_i rfl q1] at hw
    exact va_alen hx hb hK h7 a (h.2.2 a).1 hw ht e hdg K
  · by_cases q2 : (h.2.2 a).1 = 2
    · rw [am_ce_l q2] at hw
      rw [q2] at ht
      exact va_alen hx hb hK h7 a 2 hw ht e hdg K
    · rw [am_ce_q (by omega) hk7] at hw
      exact va_alen hx hb hK h7 a (h.2.2 a).1 hw ht e hdg K
end SM
end
section
/-! New cells; copies. -/
section SM
variable {p : Program} {l : Launch} {e : Env} {R : Room} {s : State} {m : MethodId} {args : Array Value} {below : List Frame} {meth : Method} {c : Code} {Q : State → Prop} {D : va_G} {ca : Nat → ClassId} {ft : am_ft} {A : Nat → Prop} {n0 z0 : Nat} {ad0 : Nat → Nat} {nL : Nat} {cc : ByteArray}
theorem am_LR.cg {ad ad2 : Nat → Nat} {n : Nat} {ls : List am_V} {LS : Array Slot} (h : am_LR ad ls LS) (hh : ∀ k, k < n → ad2 k = ad k) (hl : ∀ v ∈ ls, v = vU ∨ am_vk n v) : am_LR ad2 ls LS := by
  refine ⟨h.1, h.2.1, fun q hq => ?_⟩
  obtain ⟨v, h1, h2, h3⟩ := am_lvl_mem.mp hq
  have hv : am_vk n v := (hl v (List.mem_of_getElem? h1)).elim (fun z => absurd z h2) (fun z => z)
  exact h.2.2 q (am_lvl_mem.mpr ⟨v, h1, h2, by rw [h3, am_cv_cg hh hv]⟩)
theorem am_st_cg {ad ad2 : Nat → Nat} {n : Nat} {st : List am_V} (hh : ∀ k, k < n → ad2 k = ad k) (hl : ∀ v ∈ st, am_vk n v) : st.map (am_cv ad2) = st.map (am_cv ad) := List.map_congr_left fun v hv => am_cv_cg hh (hl v hv)
theorem am_up_lt {ad : Nat → Nat} {n q : Nat} : ∀ k, k < n → am_up ad n q k = ad k := fun k hk => by simp [am_up, Nat.ne_of_lt hk]
/-- behind a new cell -/
theorem am_new_go {pc2 q kd n : Nat} {ls st us : List am_V} {h : am_H} {f : Nat → am_V} {ad : Nat → Nat} {H : Heap} {locs : List Loc} {LS : Array Slot} {e1 : va_E} (h1 : ∀ k, k < n0 → ad k = ad0 k) (h2 : n0 ≤ h.1) (h3 : z0 ≤ h.2.1) (h4 : am_gd ft h) (h5 : ∀ w ∈ us ++ st, am_vk h.1 w) (h6 : ∀ w ∈ ls, w = vU ∨ am_vk h.1 w) (h10 : am_LR ad ls LS) (h11 : ls.length = nL) (hc : am_ckd ft (h.1 + 1) (kd, n, f))
    (he : am_ce (am_up ad h.1 q) ca (kd, n, f) = e1) (k : am_G p l e R s m args below meth c Q D ca ft A n0 z0 ad0 nL (pc2, ls, vR h.1 :: st, am_mk h kd n f))
    (hP : va_P D vwCl (am_ws ad ca h ++ [(q, e1)]) H) (hD : va_D A (am_ws ad ca h ++ [(q, e1)])) (hS : va_S A s.heap H locs) : W p l e R s m args below meth c H locs (h.1 - n0 + 1) (h.2.1 - z0 + n) Q (F0 m pc2 LS (.ref q :: st.map (am_cv ad))) := by
  have e : am_ws (am_up ad h.1 q) ca (am_mk h kd n f) = am_ws ad ca h ++ [(q, e1)] := by
    rw [← he]
    exact am_ws_push h4
  rw [← e] at hP hD
  have hlt : ∀ k, k < h.1 → am_up ad h.1 q k = ad k := am_up_lt
  have hs5 : ∀ w ∈ st, am_vk h.1 w := fun w hw => h5 w (List.mem_append_right _ hw)
  have K := k (am_up ad h.1 q) H locs LS (fun j hj => (hlt j (by omega)).trans (h1 j hj)) (show n0 ≤ h.1 + 1 by omega) (show z0 ≤ h.2.1 + n by omega) (fun j hj => by
      show am_ckd ft (h.1 + 1) (am_up h.2.2 h.1 (kd, n, f) j)
      have hj : j < h.1 + 1 := hj
      unfold am_up
      by_cases e9 : j = h.1
      · rw [if_pos e9]
        exact hc
      · rw [if_neg e9]
        exact (h4 j (by omega)).mono (Nat.le_succ _))
    (fun w hw => (List.mem_cons.mp hw).elim (fun z => by rw [z]; exact Nat.lt_succ_self _) (fun z => (hs5 w z).mono (Nat.le_succ _)))
    (fun w hw => (h6 w hw).elim Or.inl (fun z => Or.inr (z.mono (Nat.le_succ _)))) hP hD hS (h10.cg hlt h6) h11
  have e2 : (vR h.1 :: st).map (am_cv (am_up ad h.1 q)) = .ref q :: st.map (am_cv ad) := by
    rw [List.map_cons, am_st_cg hlt hs5]
    show Value.ref (am_up ad h.1 q h.1) :: _ = _
    simp [am_up]
  exact W.cs (show h.1 - n0 + 1 = h.1 + 1 - n0 by omega) (show h.2.1 - z0 + n = h.2.1 + n - z0 by omega) (by rw [← e2]; exact K)
theorem am_dv_ok {n k : Nat} {ty : FieldType} (h : am_tk k ty = true) : am_vt n k (am_dv k) ∧ ∀ ad, defaultValue ty = am_cv ad (am_dv k) := by
  unfold am_tk at h
  split at h
  · exact ⟨⟨am_0r, rfl⟩, fun _ => rfl⟩
  · exact ⟨⟨am_0r, rfl⟩, fun _ => rfl⟩
  · exact ⟨⟨am_0l, rfl⟩, fun _ => rfl⟩
  · exact ⟨⟨trivial, rfl⟩, fun _ => rfl⟩
  · exact ⟨⟨trivial, rfl⟩, fun _ => rfl⟩
  · cases h
theorem sm_new {own : String} {Ts : List Cond} {pc index x : Nat} {ls st : List am_V} {h : am_H} {C : String} {T : u_T} {N : Nat} (tyf : Nat → FieldType) (hx : p.tables.exec = Jvm.exec) (hb : c.code = cc) (hown : s.vm.findClass own = some m.cls) (hts : ∀ w ∈ Ts, w.before args s = true) (hK : va_K D vwCl (am_tys ca) s) (hA : ∀ q, s.heap.size ≤ q → A q) (hdg : decode cc pc = .ok (.new index, 3))
    (f1 : vwCl[x]? = some (C, T, N)) (f4 : ∀ w ∈ u_ws C T N, w ∈ Ts) (f5 : ∀ k, k < N → parseFieldDescriptor (T k).2.2.1 = some (tyf k)) (f7 : ∀ k, k < N → am_tk (ft x k) (tyf k) = true) (f8 : Cond.classLink own index C ∈ Ts) (f9 : Cond.instantiable C N ∈ Ts) (f10 : Cond.initialized C ∈ Ts)
    (hrc : h.1 + 1 - n0 ≤ R.cells) (hrs : h.2.1 + N - z0 ≤ R.slots) (k : am_G p l e R s m args below meth c Q D ca ft A n0 z0 ad0 nL (pc + 3, ls, vR h.1 :: st, am_mk h (10 + x) N (fun j => am_dv (ft x j)))) : am_G p l e R s m args below meth c Q D ca ft A n0 z0 ad0 nL (pc, ls, st, h) := by
  intro ad H locs LS h1 h2 h3 h4 h5 h6 h7 h8 h9 h10 h11
  have h4 : am_gd ft h := h4
  have h2 : n0 ≤ h.1 := h2
  have h3 : z0 ≤ h.2.1 := h3
  refine va_new (fs := (List.range N).map (fun j => am_cv ad (am_dv (ft x j)))) hx hb hts f4 tyf f5 hown (hts _ f8) (hts _ f9) (hts _ f10) hK h7 h8 h9 hA f1 (fun j hj => ?_) (show h.1 - n0 + 1 ≤ R.cells by omega) (show h.2.1 - z0 + N ≤ R.slots by omega) hdg (fun q H1 hP hD hS => ?_)
  · rw [(am_dv_ok (n := 0) (f7 j hj)).2 ad]
    unfold vp_V
    simp [hj]
  · refine am_new_go (us := []) (kd := 10 + x) (n := N) (f := fun j => am_dv (ft x j)) h1 h2 h3 h4 h5 h6 h10 h11 (Or.inr ⟨Nat.le_add_right _ _, fun i hi => ?_⟩) ?_ k hP hD hS
    · show am_vt _ (ft (10 + x - 10) i) (am_dv (ft x i))
      rw [Nat.add_sub_cancel_left]
      exact (am_dv_ok (f7 i hi)).1
    · rw [am_ce_obj (K := (10 + x, N, fun j => am_dv (ft x j))) rfl]
      refine congrArg (fun z => (Sum.inr (x, z) : va_E)) (List.map_congr_left fun j hj => ?_)
      have hj := List.mem_range.mp hj
      rw [← (am_dv_ok (n := 0) (f7 j hj)).2 ad, ← (am_dv_ok (n := 0) (f7 j hj)).2 (am_up ad h.1 q)]
theorem am_ca_eq {ty : FieldType} {k : Nat} {cA : ClassId} (hk : k < 3) (hty : am_ty k = ty) (hK : va_K D vwCl (am_tys ca) s) (h : va_RA s cA ty) : cA = ca k := by
  have h2 := (hK.2 k _ (am_tys_at ca (k := k) (by omega))).2
  rw [hty] at h2
  subst hty
  rcases (show k = 0 ∨ k = 1 ∨ k = 2 by omega) with rfl | rfl | rfl <;> exact Option.some.inj (Eq.trans (Eq.symm h) h2)
theorem sm_newa {Ts : List Cond} {pc kd : Nat} {n : Int} {at9 : ArrayType} {ls st : List am_V} {h : am_H} (hx : p.tables.exec = Jvm.exec) (hb : c.code = cc) (hts : ∀ w ∈ Ts, w.before args s = true) (hK : va_K D vwCl (am_tys ca) s) (hA : ∀ q, s.heap.size ≤ q → A q) (hdg : decode cc pc = .ok (.newarray at9, 2))
    (hkd : kd < 3) (hty : newarray.typeOf at9 = am_ty kd) (f8 : Cond.arrayClass (newarray.typeOf at9) ∈ Ts) (hn0 : 0 ≤ n) (hn : n ≤ 1024)
    (hrc : h.1 + 1 - n0 ≤ R.cells) (hrs : h.2.1 + n.toNat - z0 ≤ R.slots) (k : am_G p l e R s m args below meth c Q D ca ft A n0 z0 ad0 nL (pc + 2, ls, vR h.1 :: st, am_mk h kd n.toNat (fun _ => am_dv kd))) : am_G p l e R s m args below meth c Q D ca ft A n0 z0 ad0 nL (pc, ls, vI n :: st, h) := by
  intro ad H locs LS h1 h2 h3 h4 h5 h6 h7 h8 h9 h10 h11
  have h4 : am_gd ft h := h4
  have h2 : n0 ≤ h.1 := h2
  have h3 : z0 ≤ h.2.1 := h3
  have hr : am_r32 n := h5 (vI n) (by simp)
  have hneg : ¬ Int32.ofInt n < 0 := fun q => by
    have := (am_o_lt hr am_0r).mp q
    omega
  have hN : (Int32.ofInt n).toNatClampNeg = n.toNat := by
    show (Int32.ofInt n).toInt.toNat = n.toNat
    rw [am_tI hr]
  have hck : am_ckd ft (h.1 + 1) (kd, n.toNat, fun _ => am_dv kd) := Or.inl ⟨show kd < 7 by omega, show n.toNat ≤ 1024 by omega, fun i => by
    rcases (show kd = 0 ∨ kd = 1 ∨ kd = 2 by omega) with rfl | rfl | rfl
    · exact ⟨am_0r, rfl⟩
    · exact ⟨am_0r, rfl⟩
    · exact ⟨am_0l, rfl⟩⟩
  rcases (show kd = 0 ∨ kd = 1 ∨ kd = 2 by omega) with rfl | rfl | rfl
  · refine va_newa (a0 := (n.toNat, .inl (fun _ => 0))) hx hb (hts _ f8) hty hK h7 h8 h9 hA (fun _ => rfl) hneg hN (by show n.toNat * 4 ≤ 536870912; omega) (show h.1 - n0 + 1 ≤ R.cells by omega) (show h.2.1 - z0 + n.toNat ≤ R.slots by omega) hdg (fun q cA H1 hK1 hP hD hS => ?_)
    have e := am_ca_eq (k := 0) (cA := cA) (by omega) rfl hK (hK1.2 7 _ rfl).2
    subst e
    exact am_new_go (us := [vI n]) h1 h2 h3 h4 h5 h6 h10 h11 hck (am_ce_i (K := (0, n.toNat, fun _ => vI 0)) rfl (by omega)) k hP hD hS
  · refine va_newa (a0 := (n.toNat, .inl (fun _ => 0))) hx hb (hts _ f8) hty hK h7 h8 h9 hA (fun _ => rfl) hneg hN (by show n.toNat * 1 ≤ 536870912; omega) (show h.1 - n0 + 1 ≤ R.cells by omega) (show h.2.1 - z0 + n.toNat ≤ R.slots by omega) hdg (fun q cA H1 hK1 hP hD hS => ?_)
    have e := am_ca_eq (k := 1) (cA := cA) (by omega) rfl hK (hK1.2 7 _ rfl).2
    subst e
    exact am_new_go (us := [vI n]) h1 h2 h3 h4 h5 h6 h10 h11 hck (am_ce_i (K := (1, n.toNat, fun _ => vI 0)) rfl (by omega)) k hP hD hS
  · refine va_newa (a0 := (n.toNat, .inr (.inl (fun _ => 0)))) hx hb (hts _ f8) hty hK h7 h8 h9 hA (fun _ => rfl) hneg hN (by show n.toNat * 8 ≤ 536870912; omega) (show h.1 - n0 + 1 ≤ R.cells by omega) (show h.2.1 - z0 + n.toNat ≤ R.slots by omega) hdg (fun q cA H1 hK1 hP hD hS => ?_)
    have e := am_ca_eq (k := 2) (cA := cA) (by omega) rfl hK (hK1.2 7 _ rfl).2
    subst e
    exact am_new_go (us := [vI n]) h1 h2 h3 h4 h5 h6 h10 h11 hck (am_ce_l (K := (2, n.toNat, fun _ => vL 0)) rfl) k hP hD hS
theorem sm_newq {own C : String} {Ts : List Cond} {pc index kd : Nat} {n : Int} {ls st : List am_V} {h : am_H} (hx : p.tables.exec = Jvm.exec) (hb : c.code = cc) (hown : s.vm.findClass own = some m.cls) (hts : ∀ w ∈ Ts, w.before args s = true) (hK : va_K D vwCl (am_tys ca) s) (hA : ∀ q, s.heap.size ≤ q → A q) (hdg : decode cc pc = .ok (.anewarray index, 3))
    (hkd : 4 ≤ kd) (hk7 : kd < 7) (hty : am_ty kd = .object C) (f8 : Cond.classLink own index C ∈ Ts) (f9 : va_AO C s) (hn0 : 0 ≤ n) (hn : n ≤ 1024)
    (hrc : h.1 + 1 - n0 ≤ R.cells) (hrs : h.2.1 + n.toNat - z0 ≤ R.slots) (k : am_G p l e R s m args below meth c Q D ca ft A n0 z0 ad0 nL (pc + 3, ls, vR h.1 :: st, am_mk h kd n.toNat (fun _ => am_dv kd))) : am_G p l e R s m args below meth c Q D ca ft A n0 z0 ad0 nL (pc, ls, vI n :: st, h) := by
  intro ad H locs LS h1 h2 h3 h4 h5 h6 h7 h8 h9 h10 h11
  have h4 : am_gd ft h := h4
  have h2 : n0 ≤ h.1 := h2
  have h3 : z0 ≤ h.2.1 := h3
  have hr : am_r32 n := h5 (vI n) (by simp)
  have hneg : ¬ Int32.ofInt n < 0 := fun q => by
    have := (am_o_lt hr am_0r).mp q
    omega
  have hN : (Int32.ofInt n).toNatClampNeg = n.toNat := by
    show (Int32.ofInt n).toInt.toNat = n.toNat
    rw [am_tI hr]
  have hdv : am_dv kd = vN := by
    rcases (show kd = 4 ∨ kd = 5 ∨ kd = 6 by omega) with rfl | rfl | rfl <;> rfl
  refine va_newq hx hb hown (hts _ f8) f9 hK h7 h8 h9 hA hneg hN (by omega) (show h.1 - n0 + 1 ≤ R.cells by omega) (show h.2.1 - z0 + n.toNat ≤ R.slots by omega) hdg (fun q cA H1 hK1 hP hD hS => ?_)
  have e : cA = ca kd := by
    have g1 := (hK1.2 7 (cA, .object C) rfl).2
    have g2 := (hK.2 kd _ (am_tys_at ca hk7)).2
    rw [hty] at g2
    obtain ⟨_, _, _, _, _, g3⟩ := g1
    obtain ⟨_, _, _, _, _, g4⟩ := g2
    exact Option.some.inj (g3.symm.trans g4)
  subst e
  refine am_new_go (us := [vI n]) h1 h2 h3 h4 h5 h6 h10 h11 (Or.inl ⟨hk7, show n.toNat ≤ 1024 by omega, fun i => ?_⟩) ?_ k hP hD hS
  · show am_vt _ (am_ek kd) (am_dv kd)
    rw [am_ek_q (by omega), hdv]
    exact ⟨trivial, rfl⟩
  · rw [am_ce_q (K := (kd, n.toNat, fun _ => am_dv kd)) (by show 3 ≤ kd; omega) hk7, hdv]
    rfl
theorem am_cpy_i {f g : Nat → am_V} {sp dp n : Nat} : (fun j => am_toI (am_cpy f g sp dp n j)) = va_cpy (fun j => am_toI (f j)) (fun j => am_toI (g j)) sp dp n := by
  funext j
  unfold am_cpy va_cpy
  split <;> rfl
theorem am_cpy_l {f g : Nat → am_V} {sp dp n : Nat} : (fun j => am_toL (am_cpy f g sp dp n j)) = va_cpy (fun j => am_toL (f j)) (fun j => am_toL (g j)) sp dp n := by
  funext j
  unfold am_cpy va_cpy
  split <;> rfl
theorem sm_copy {own : String} {Ts : List Cond} {pc index a b : Nat} {n sp dp : Int} {ls : List am_V} {h : am_H} (hx : p.tables.exec = Jvm.exec) (hb : c.code = cc) (hml : c.maxLocals = nL) (hown : s.vm.findClass own = some m.cls) (hts : ∀ w ∈ Ts, w.before args s = true) (hK : va_K D vwCl (am_tys ca) s) (hdg : decode cc pc = .ok (.invokestatic index, 3))
    (f1 : Cond.methodLink own index arraycopyName ∈ Ts) (f2 : Cond.native arraycopyName ∈ Ts) (f3 : Cond.static arraycopyName ∈ Ts) (f4 : Cond.initialized "java/lang/System" ∈ Ts) (hfr : 1 ≤ R.frames) (hlo : nativeFrameWords "java/lang/System" "arraycopy" 5 + 11 ≤ R.locals)
    (ha : a < h.1) (hb2 : b < h.1) (hab : (h.2.2 a).1 = (h.2.2 b).1) (hk : (h.2.2 a).1 = 0 ∨ (h.2.2 a).1 = 2) (hn : 0 ≤ n) (hs0 : 0 ≤ sp) (hd0 : 0 ≤ dp) (h1a : sp + n ≤ ((h.2.2 a).2.1 : Int)) (h1b : dp + n ≤ ((h.2.2 b).2.1 : Int))
    (k : am_G p l e R s m args below meth c Q D ca ft A n0 z0 ad0 nL (pc + 3, ls, [], (h.1, h.2.1, am_up h.2.2 b ((h.2.2 b).1, (h.2.2 b).2.1, am_cpy (h.2.2 a).2.2 (h.2.2 b).2.2 sp.toNat dp.toNat n.toNat)))) : am_G p l e R s m args below meth c Q D ca ft A n0 z0 ad0 nL (pc, ls, [vI n, vI dp, vR b, vI sp, vR a], h) := by
  intro ad H locs LS h1 h2 h3 h4 h5 h6 h7 h8 h9 h10 h11
  have h4 : am_gd ft h := h4
  have hrn : am_r32 n := h5 (vI n) (by simp)
  have hrd : am_r32 dp := h5 (vI dp) (by simp)
  have hrs : am_r32 sp := h5 (vI sp) (by simp)
  have neg : ∀ z : Int, am_r32 z → 0 ≤ z → ¬ Int32.ofInt z < 0 := fun z hz h0 q => by
    have := (am_o_lt hz am_0r).mp q
    omega
  have cl : ∀ z : Int, am_r32 z → (Int32.ofInt z).toNatClampNeg = z.toNat := fun z hz => by
    show (Int32.ofInt z).toInt.toNat = z.toNat
    rw [am_tI hz]
  have hc : am_gd ft (h.1, h.2.1, am_up h.2.2 b ((h.2.2 b).1, (h.2.2 b).2.1, am_cpy (h.2.2 a).2.2 (h.2.2 b).2.2 sp.toNat dp.toNat n.toNat)) := by
    intro j hj
    show am_ckd ft h.1 (am_up h.2.2 b _ j)
    unfold am_up
    by_cases e : j = b
    · rw [if_pos e]
      have ga := am_gd_arr h4 ha (by omega)
      rcases h4 b hb2 with q | q
      · refine Or.inl ⟨q.1, q.2.1, fun i => ?_⟩
        show am_vt h.1 (am_ek (h.2.2 b).1) (am_cpy _ _ _ _ _ i)
        unfold am_cpy
        split
        · rw [← hab]
          exact ga _
        · exact q.2.2 i
      · omega
    · rw [if_neg e]
      exact h4 j hj
  have fin : ∀ (H1 : Heap) (locs1 : List Loc) (e1 : va_E), am_ce ad ca ((h.2.2 b).1, (h.2.2 b).2.1, am_cpy (h.2.2 a).2.2 (h.2.2 b).2.2 sp.toNat dp.toNat n.toNat) = e1 → va_P D vwCl ((am_ws ad ca h).set b (ad b, e1)) H1 → va_D A ((am_ws ad ca h).set b (ad b, e1)) → va_S A s.heap H1 locs1 → W p l e R s m args below meth c H1 locs1 (h.1 - n0) (h.2.1 - z0) Q (F0 m (pc + 3) LS []) := fun H1 locs1 e1 he hP hD hS => by
    rw [← am_ws_set hb2 he] at hP hD
    exact k ad H1 locs1 LS h1 h2 h3 hc (fun w hw => by simp at hw) h6 hP hD hS h10 h11
  have hml2 : c.maxLocals = LS.size := hml.trans (h11.symm.trans h10.1.symm)
  rcases hk with hk | hk
  · have hkb : (h.2.2 b).1 = 0 := by omega
    have fi : ∀ i, i < (Int32.ofInt n).toNatClampNeg → fits .int (.int ((fun j => am_toI ((h.2.2 a).2.2 j)) ((Int32.ofInt sp).toNatClampNeg + i))) = true := fun i _ => rfl
    refine va_copyi (ty := .int) (rest := []) hx hb hml2 hown (hts _ f1) (hts _ f2) (hts _ f3) (hts _ f4) hK h7 h8 h9 a b 0 0 ((am_ws_at ha).trans (by rw [am_ce_i hk (by omega)])) ((am_ws_at hb2).trans (by rw [am_ce_i hkb (by omega)])) rfl rfl rfl (neg sp hrs hs0) (neg dp hrd hd0) (neg n hrn hn) (by rw [cl _ hrs, cl _ hrn]; omega) (by rw [cl _ hrd, cl _ hrn]; omega) fi hfr (by simpa using hlo) hdg (fun H1 locs1 hP hD hS => ?_)
    rw [cl _ hrs, cl _ hrd, cl _ hrn] at hP hD
    exact fin H1 locs1 _ (by rw [am_ce_i (K := ((h.2.2 b).1, (h.2.2 b).2.1, am_cpy (h.2.2 a).2.2 (h.2.2 b).2.2 sp.toNat dp.toNat n.toNat)) hkb (by omega)]; exact congrArg (fun z => (Sum.inl (ca 0, (h.2.2 b).2.1, .inl z) : va_E)) am_cpy_i) hP hD hS
  · have hkb : (h.2.2 b).1 = 2 := by omega
    have fi : ∀ i, i < (Int32.ofInt n).toNatClampNeg → fits .long (.long ((fun j => am_toL ((h.2.2 a).2.2 j)) ((Int32.ofInt sp).toNatClampNeg + i))) = true := fun i _ => rfl
    refine va_copyl (ty := .long) (rest := []) hx hb hml2 hown (hts _ f1) (hts _ f2) (hts _ f3) (hts _ f4) hK h7 h8 h9 a b 2 2 ((am_ws_at ha).trans (by rw [am_ce_l hk])) ((am_ws_at hb2).trans (by rw [am_ce_l hkb])) rfl rfl rfl (neg sp hrs hs0) (neg dp hrd hd0) (neg n hrn hn) (by rw [cl _ hrs, cl _ hrn]; omega) (by rw [cl _ hrd, cl _ hrn]; omega) fi hfr (by simpa using hlo) hdg (fun H1 locs1 hP hD hS => ?_)
    rw [cl _ hrs, cl _ hrd, cl _ hrn] at hP hD
    exact fin H1 locs1 _ (by rw [am_ce_l (K := ((h.2.2 b).1, (h.2.2 b).2.1, am_cpy (h.2.2 a).2.2 (h.2.2 b).2.2 sp.toNat dp.toNat n.toNat)) hkb]; exact congrArg (fun z => (Sum.inl (ca 2, (h.2.2 b).2.1, .inr (.inl z)) : va_E)) am_cpy_l) hP hD hS
theorem sm_obj {own : String} {Ts : List Cond} {pc index a : Nat} {ls : List am_V} {h : am_H} (hx : p.tables.exec = Jvm.exec) (hb : c.code = cc) (hml : c.maxLocals = nL) (hown : s.vm.findClass own = some m.cls) (hts : ∀ w ∈ Ts, w.before args s = true) (hdg : decode cc pc = .ok (.invokespecial index, 3)) (f1 : Cond.methodLink own index Lib.objectInit ∈ Ts) (f2 : Cond.instanceMethod Lib.objectInit ∈ Ts) (f3 : Cond.code Lib.objectInit ⟨#[0xb1]⟩ 1 none ∈ Ts) (hfr : 1 ≤ R.frames) (hlo : 12 ≤ R.locals)
    (k : am_G p l e R s m args below meth c Q D ca ft A n0 z0 ad0 nL (pc + 3, ls, [], h)) : am_G p l e R s m args below meth c Q D ca ft A n0 z0 ad0 nL (pc, ls, [vR a], h) := by
  intro ad H locs LS h1 h2 h3 h4 h5 h6 h7 h8 h9 h10 h11
  have h4 : am_gd ft h := h4
  exact W.objInit hx hb hown (hts _ f1) (hts _ f2) (hts _ f3) rfl (h10.1.trans (h11.trans hml.symm)) rfl hdg hfr (by show 2 * 0 + 0 + 12 ≤ R.locals; omega) (k ad H locs LS h1 h2 h3 h4 (fun w hw => by simp at hw) h6 h7 h8 h9 h10 h11)
end SM
end
section
/-! new int[n][k]. -/
section SM
variable {p : Program} {l : Launch} {e : Env} {R : Room} {s : State} {m : MethodId} {args : Array Value} {below : List Frame} {meth : Method} {c : Code} {Q : State → Prop} {D : va_G} {ca : Nat → ClassId} {ft : am_ft} {A : Nat → Prop} {n0 z0 : Nat} {ad0 : Nat → Nat} {nL : Nat} {cc : ByteArray}
def am_ga (ad : Nat → Nat) (b n q : Nat) (r : Nat → Nat) : Nat → Nat := fun j => if j = b then q else if b < j ∧ j < b + 1 + n then r (j - b - 1) else ad j
theorem am_ga_lt {ad : Nat → Nat} {b n q : Nat} {r : Nat → Nat} : ∀ k, k < b → am_ga ad b n q r k = ad k := fun k hk => by
  unfold am_ga
  rw [if_neg (by omega), if_neg (by omega)]
theorem am_ga_b {ad : Nat → Nat} {b n q : Nat} {r : Nat → Nat} : am_ga ad b n q r b = q := by
  unfold am_ga
  rw [if_pos rfl]
theorem am_ga_r {ad : Nat → Nat} {b n q i : Nat} {r : Nat → Nat} (hi : i < n) : am_ga ad b n q r (b + 1 + i) = r i := by
  unfold am_ga
  rw [if_neg (by omega), if_pos (by omega)]
  congr 1
  omega
theorem am_ws_grid {ad : Nat → Nat} {h : am_H} {n k q : Nat} {r : Nat → Nat} {f : Nat → va_E} (hg : am_gd ft h) : am_ws (am_ga ad h.1 n q r) ca (am_grid h n k) = (am_ws ad ca h ++ [(q, .inl (ca 3, n, .inr (.inr (.inr (.inr (fun i => if i < n then some (r i) else none))))))]) ++ va_pl ([] ++ (List.range n).map r) (vr_up f ((List.range n).map r) (.inl (ca 0, k, .inl (fun _ => 0)))) := by
  have h1 : am_ws (am_ga ad h.1 n q r) ca h = am_ws ad ca h := am_ws_cg hg am_ga_lt
  rw [← h1]
  unfold am_ws va_pl
  show (List.range (h.1 + 1 + n)).map _ = _
  rw [List.range_add, List.range_succ, List.map_append, List.map_append, List.nil_append]
  congr 1
  · congr 1
    · refine List.map_congr_left fun j hj => ?_
      have hj := List.mem_range.mp hj
      unfold am_grid
      simp only []
      rw [if_neg (by omega), if_neg (by omega)]
    · rw [List.map_singleton, am_ga_b]
      congr 2
      unfold am_grid
      simp only [if_pos]
      rw [am_ce_q (by show 3 ≤ 3; omega) (by show 3 < 7; omega)]
      refine congrArg (fun z => (Sum.inl (ca 3, n, .inr (.inr (.inr (.inr z)))) : va_E)) (funext fun i => ?_)
      show am_toR _ (if i < n then vR (h.1 + 1 + i) else vN) = _
      by_cases hi : i < n
      · rw [if_pos hi, if_pos hi]
        exact congrArg some (am_ga_r hi)
      · rw [if_neg hi, if_neg hi]
        rfl
  · rw [List.map_map, List.map_map]
    refine List.map_congr_left fun i hi => ?_
    have hi := List.mem_range.mp hi
    show (am_ga ad h.1 n q r (h.1 + 1 + i), am_ce _ ca ((am_grid h n k).2.2 (h.1 + 1 + i))) = (r i, vr_up f _ _ (r i))
    rw [am_ga_r hi, vr_up_in (List.mem_map.mpr ⟨i, List.mem_range.mpr hi, rfl⟩)]
    congr 1
    unfold am_grid
    simp only []
    rw [if_neg (by omega), if_pos (by omega)]
    exact am_ce_i (K := (0, k, fun _ => vI 0)) rfl (by omega)
theorem sm_mna {own : String} {Ts : List Cond} {pc index : Nat} {n k : Int} {ls st : List am_V} {h : am_H} (hx : p.tables.exec = Jvm.exec) (hb : c.code = cc) (hown : s.vm.findClass own = some m.cls) (hts : ∀ w ∈ Ts, w.before args s = true) (hK : va_K D vwCl (am_tys ca) s) (hA : ∀ q, s.heap.size ≤ q → A q) (hdg : decode cc pc = .ok (.multianewarray index 2, 4))
    (f8 : Cond.classLink own index ("[" ++ (FieldType.array .int).toString) ∈ Ts) (f9 : va_AOA .int s) (f10 : Cond.arrayClass .int ∈ Ts) (hn0 : 0 ≤ n) (hn : n ≤ 1024) (hk0 : 0 ≤ k) (hk : k ≤ 1024)
    (hrc : h.1 + 1 + n.toNat - n0 ≤ R.cells) (hrs : h.2.1 + n.toNat + n.toNat * k.toNat - z0 ≤ R.slots) (kk : am_G p l e R s m args below meth c Q D ca ft A n0 z0 ad0 nL (pc + 4, ls, vR h.1 :: st, am_grid h n.toNat k.toNat)) : am_G p l e R s m args below meth c Q D ca ft A n0 z0 ad0 nL (pc, ls, vI k :: vI n :: st, h) := by
  intro ad H locs LS h1 h2 h3 h4 h5 h6 h7 h8 h9 h10 h11
  have h4 : am_gd ft h := h4
  have h2 : n0 ≤ h.1 := h2
  have h3 : z0 ≤ h.2.1 := h3
  have hrn : am_r32 n := h5 (vI n) (by simp)
  have hrk : am_r32 k := h5 (vI k) (by simp)
  have neg : ∀ z : Int, am_r32 z → 0 ≤ z → ¬ Int32.ofInt z < 0 := fun z hz h0 q => by
    have := (am_o_lt hz am_0r).mp q
    omega
  have cl : ∀ z : Int, am_r32 z → (Int32.ofInt z).toNatClampNeg = z.toNat := fun z hz => by
    show (Int32.ofInt z).toInt.toNat = z.toNat
    rw [am_tI hz]
  have hcy : s.vm.findClass (FieldType.array .int).toString = some (ca 0) := (hK.2 0 _ (am_tys_at ca (k := 0) (by omega))).2
  have e0 : ∀ f : Nat → va_E, am_ws ad ca h ++ va_pl [] f = am_ws ad ca h := fun f => by simp [va_pl]
  have hs5 : ∀ w ∈ st, am_vk h.1 w := fun w hw => h5 w (by simp [hw])
  refine va_mna (X := am_ws ad ca h) (L := []) (f := fun _ => .inl (ca 0, 0, .inl (fun _ => 0))) (ty := .int) (cy := ca 0) (z := (k.toNat, .inl (fun _ => 0))) hx hb hown (hts _ f8) f9 (hts _ f10) hcy hK (by rw [e0]; exact h7) (by rw [e0]; exact h8) h9 hA (neg n hrn hn0) (neg k hrk hk0) (cl n hrn) (cl k hrk) (by omega) (by show k.toNat * 4 ≤ 536870912; omega) (by omega) rfl rfl (show h.1 - n0 + (1 + n.toNat) ≤ R.cells by omega) (show h.2.1 - z0 + (n.toNat + n.toNat * k.toNat) ≤ R.slots by omega) (fun c9 => ?_) hdg (fun q r cA H1 hr1 hr2 hK1 hP hD hS => ?_)
  · rw [vp_cell_i, ← arrV_new]
    rfl
  · have e : cA = ca 3 := by
      have g1 := (hK1.2 7 (cA, .array .int) rfl).2
      have g2 := (hK.2 3 _ (am_tys_at ca (k := 3) (by omega))).2
      exact Option.some.inj (Eq.trans (Eq.symm g1) g2)
    subst e
    rw [← am_ws_grid (ft := ft) (ad := ad) h4] at hP hD
    have K := kk (am_ga ad h.1 n.toNat q r) H1 locs LS (fun j hj => (am_ga_lt j (by omega)).trans (h1 j hj)) (show n0 ≤ h.1 + 1 + n.toNat by omega) (show z0 ≤ h.2.1 + n.toNat + n.toNat * k.toNat by omega) (fun j hj => by
        have hj : j < h.1 + 1 + n.toNat := hj
        show am_ckd ft (h.1 + 1 + n.toNat) ((am_grid h n.toNat k.toNat).2.2 j)
        unfold am_grid
        simp only []
        by_cases e9 : j = h.1
        · rw [if_pos e9]
          refine Or.inl ⟨show 3 < 7 by omega, show n.toNat ≤ 1024 by omega, fun i => ?_⟩
          show am_vt _ 3 (if i < n.toNat then vR (h.1 + 1 + i) else vN)
          by_cases hi : i < n.toNat
          · rw [if_pos hi]
            exact ⟨show h.1 + 1 + i < _ by omega, rfl⟩
          · rw [if_neg hi]
            exact ⟨trivial, rfl⟩
        · rw [if_neg e9]
          by_cases e8 : h.1 < j ∧ j < h.1 + 1 + n.toNat
          · rw [if_pos e8]
            exact Or.inl ⟨show 0 < 7 by omega, show k.toNat ≤ 1024 by omega, fun i => ⟨am_0r, rfl⟩⟩
          · rw [if_neg e8]
            exact (h4 j (by omega)).mono (by omega))
      (fun w hw => (List.mem_cons.mp hw).elim (fun z => by rw [z]; show h.1 < h.1 + 1 + n.toNat; omega) (fun z => (hs5 w z).mono (show h.1 ≤ h.1 + 1 + n.toNat by omega)))
      (fun w hw => (h6 w hw).elim Or.inl (fun z => Or.inr (z.mono (show h.1 ≤ h.1 + 1 + n.toNat by omega)))) hP hD hS (h10.cg am_ga_lt h6) h11
    have e2 : (vR h.1 :: st).map (am_cv (am_ga ad h.1 n.toNat q r)) = .ref q :: st.map (am_cv ad) := by
      rw [List.map_cons, am_st_cg am_ga_lt hs5]
      show Value.ref (am_ga ad h.1 n.toNat q r h.1) :: _ = _
      rw [am_ga_b]
    exact W.cs (show h.1 - n0 + 1 + n.toNat = h.1 + 1 + n.toNat - n0 by omega) (show h.2.1 - z0 + n.toNat + n.toNat * k.toNat = h.2.1 + n.toNat + n.toNat * k.toNat - z0 by omega) (by rw [← e2]; exact K)
end SM
end
section
/-! What a step says of the state before it. -/
abbrev am_nx (t : am_S) : (am_S ⊕ ((Nat × List am_V × am_S) ⊕ (Option am_V × am_H))) := .inl t
theorem iv_load {k i len x y pc : Nat} {ls st : List am_V} {h : am_H} {r} (e : am_load k i len x y (pc, ls, st, h) = some r) : ∃ v, ls[i]? = some v ∧ am_is k v = true ∧ r = am_nx (pc + len, ls, v :: st, h) := by
  unfold am_load at e
  split at e
  · rename_i v hv
    split at e
    · rename_i hk
      exact ⟨v, hv, hk, (Option.some.inj e).symm⟩
    · cases e
  · cases e
theorem iv_stor {k i len x y pc : Nat} {ls st : List am_V} {h : am_H} {r} (e : am_stor k i len x y (pc, ls, st, h) = some r) : ∃ v st2, st = v :: st2 ∧ am_is k v = true ∧ i < ls.length ∧ r = am_nx (pc + len, (am_cl ls i).set i v, st2, h) := by
  unfold am_stor at e
  split at e
  · rename_i v st2 hst
    split at e
    · rename_i hk
      simp only [Bool.and_eq_true, decide_eq_true_eq] at hk
      exact ⟨v, st2, hst, hk.1, hk.2, (Option.some.inj e).symm⟩
    · cases e
  · cases e
theorem iv_storl {i len x y pc : Nat} {ls st : List am_V} {h : am_H} {r} (e : am_storl i len x y (pc, ls, st, h) = some r) : ∃ z st2, st = vL z :: st2 ∧ i + 1 < ls.length ∧ r = am_nx (pc + len, ((am_cl ls i).set i (vL z)).set (i + 1) vU, st2, h) := by
  unfold am_storl at e
  split at e
  · rename_i z st2 hst
    split at e
    · rename_i hk
      exact ⟨z, st2, hst, hk, (Option.some.inj e).symm⟩
    · cases e
  · cases e
theorem iv_iinc {i len x y pc : Nat} {n : Int} {ls st : List am_V} {h : am_H} {r} (e : am_iinc i n len x y (pc, ls, st, h) = some r) : ∃ z, ls[i]? = some (vI z) ∧ r = am_nx (pc + len, (am_cl ls i).set i (vI (am_w (z + n))), st, h) := by
  unfold am_iinc at e
  split at e
  · rename_i z hz
    exact ⟨z, hz, (Option.some.inj e).symm⟩
  · cases e
theorem iv_bin {f : Int → Int → Option Int} {len x y pc : Nat} {ls st : List am_V} {h : am_H} {r} (e : am_bin f len x y (pc, ls, st, h) = some r) : ∃ a b z st2, st = vI b :: vI a :: st2 ∧ f a b = some z ∧ r = am_nx (pc + len, ls, vI z :: st2, h) := by
  unfold am_bin at e
  split at e
  · rename_i b a st2 hst
    obtain ⟨z, hz, e2⟩ := Option.map_eq_some_iff.mp e
    exact ⟨a, b, z, st2, hst, hz, e2.symm⟩
  · cases e
theorem iv_binl {f : Int → Int → Option Int} {len x y pc : Nat} {ls st : List am_V} {h : am_H} {r} (e : am_binl f len x y (pc, ls, st, h) = some r) : ∃ a b z st2, st = vL b :: vL a :: st2 ∧ f a b = some z ∧ r = am_nx (pc + len, ls, vL z :: st2, h) := by
  unfold am_binl at e
  split at e
  · rename_i b a st2 hst
    obtain ⟨z, hz, e2⟩ := Option.map_eq_some_iff.mp e
    exact ⟨a, b, z, st2, hst, hz, e2.symm⟩
  · cases e
theorem iv_shl {f : Int → Int → Option Int} {len x y pc : Nat} {ls st : List am_V} {h : am_H} {r} (e : am_shl f len x y (pc, ls, st, h) = some r) : ∃ a b z st2, st = vI b :: vL a :: st2 ∧ f a b = some z ∧ r = am_nx (pc + len, ls, vL z :: st2, h) := by
  unfold am_shl at e
  split at e
  · rename_i b a st2 hst
    obtain ⟨z, hz, e2⟩ := Option.map_eq_some_iff.mp e
    exact ⟨a, b, z, st2, hst, hz, e2.symm⟩
  · cases e
theorem iv_un {f : Int → Int} {len x y pc : Nat} {ls st : List am_V} {h : am_H} {r} (e : (am_un f) len x y (pc, ls, st, h) = some r) : ∃ a st2, st = vI a :: st2 ∧ r = am_nx (pc + len, ls, vI (f a) :: st2, h) := by
  unfold am_un at e
  split at e
  · rename_i a st2 hst
    exact ⟨a, st2, hst, (Option.some.inj e).symm⟩
  · cases e
theorem iv_unl {f : Int → Int} {len x y pc : Nat} {ls st : List am_V} {h : am_H} {r} (e : (am_unl f) len x y (pc, ls, st, h) = some r) : ∃ a st2, st = vL a :: st2 ∧ r = am_nx (pc + len, ls, vL (f a) :: st2, h) := by
  unfold am_unl at e
  split at e
  · rename_i a st2 hst
    exact ⟨a, st2, hst, (Option.some.inj e).symm⟩
  · cases e
theorem iv_i2l {len x y pc : Nat} {ls st : List am_V} {h : am_H} {r} (e : am_i2l len x y (pc, ls, st, h) = some r) : ∃ a st2, st = vI a :: st2 ∧ r = am_nx (pc + len, ls, vL a :: st2, h) := by
  unfold am_i2l at e
  split at e
  · rename_i a st2 hst
    exact ⟨a, st2, hst, (Option.some.inj e).symm⟩
  · cases e
theorem iv_l2i {len x y pc : Nat} {ls st : List am_V} {h : am_H} {r} (e : am_l2i len x y (pc, ls, st, h) = some r) : ∃ a st2, st = vL a :: st2 ∧ r = am_nx (pc + len, ls, vI (am_w a) :: st2, h) := by
  unfold am_l2i at e
  split at e
  · rename_i a st2 hst
    exact ⟨a, st2, hst, (Option.some.inj e).symm⟩
  · cases e
theorem iv_lcmp {len x y pc : Nat} {ls st : List am_V} {h : am_H} {r} (e : am_lcmp len x y (pc, ls, st, h) = some r) : ∃ b a st2, st = vL b :: vL a :: st2 ∧ r = am_nx (pc + len, ls, vI (if a < b then -1 else if a = b then 0 else 1) :: st2, h) := by
  unfold am_lcmp at e
  split at e
  · rename_i b a st2 hst
    exact ⟨b, a, st2, hst, (Option.some.inj e).symm⟩
  · cases e
theorem iv_if {cnd : Jvm.ClassFile.Cond} {len x y pc : Nat} {ls st : List am_V} {h : am_H} {r} (e : (am_if cnd) len x y (pc, ls, st, h) = some r) : ∃ a st2, st = vI a :: st2 ∧ r = am_nx ((if am_cmp cnd a 0 then x else pc + len), ls, st2, h) := by
  unfold am_if at e
  split at e
  · rename_i a st2 hst
    exact ⟨a, st2, hst, (Option.some.inj e).symm⟩
  · cases e
theorem iv_icmp {cnd : Jvm.ClassFile.Cond} {len x y pc : Nat} {ls st : List am_V} {h : am_H} {r} (e : (am_icmp cnd) len x y (pc, ls, st, h) = some r) : ∃ b a st2, st = vI b :: vI a :: st2 ∧ r = am_nx ((if am_cmp cnd a b then x else pc + len), ls, st2, h) := by
  unfold am_icmp at e
  split at e
  · rename_i b a st2 hst
    exact ⟨b, a, st2, hst, (Option.some.inj e).symm⟩
  · cases e
theorem iv_dup {len x y pc : Nat} {ls st : List am_V} {h : am_H} {r} (e : am_dup len x y (pc, ls, st, h) = some r) : ∃ v st2, st = v :: st2 ∧ ((am_is 0 v || am_is 2 v) = true) ∧ r = am_nx (pc + len, ls, v :: v :: st2, h) := by
  unfold am_dup at e
  split at e
  · rename_i v st2 hst
    split at e
    · rename_i hk
      exact ⟨v, st2, hst, hk, (Option.some.inj e).symm⟩
    · cases e
  · cases e
theorem iv_dup2 {len x y pc : Nat} {ls st : List am_V} {h : am_H} {r} (e : am_dup2 len x y (pc, ls, st, h) = some r) : ∃ v w st2, st = v :: w :: st2 ∧ (((am_is 0 v || am_is 2 v) && (am_is 0 w || am_is 2 w)) = true) ∧ r = am_nx (pc + len, ls, v :: w :: v :: w :: st2, h) := by
  unfold am_dup2 at e
  split at e
  · rename_i v w st2 hst
    split at e
    · rename_i hk
      exact ⟨v, w, st2, hst, hk, (Option.some.inj e).symm⟩
    · cases e
  · cases e
theorem iv_pop {k : Nat} {len x y pc : Nat} {ls st : List am_V} {h : am_H} {r} (e : (am_pop k) len x y (pc, ls, st, h) = some r) : ∃ v st2, st = v :: st2 ∧ (am_is k v = true) ∧ r = am_nx (pc + len, ls, st2, h) := by
  unfold am_pop at e
  split at e
  · rename_i v st2 hst
    split at e
    · rename_i hk
      exact ⟨v, st2, hst, hk, (Option.some.inj e).symm⟩
    · cases e
  · cases e
theorem iv_gf {len x y pc : Nat} {ls st : List am_V} {h : am_H} {r} (e : am_gf len x y (pc, ls, st, h) = some r) : ∃ a st2, st = vR a :: st2 ∧ (a < h.1 ∧ (h.2.2 a).1 = 10 + x ∧ y < (h.2.2 a).2.1) ∧ r = am_nx (pc + len, ls, (h.2.2 a).2.2 y :: st2, h) := by
  unfold am_gf at e
  split at e
  · rename_i a st2 hst
    split at e
    · rename_i hk
      exact ⟨a, st2, hst, hk, (Option.some.inj e).symm⟩
    · cases e
  · cases e
theorem iv_pf {ft : am_ft} {len x y pc : Nat} {ls st : List am_V} {h : am_H} {r} (e : (am_pf ft) len x y (pc, ls, st, h) = some r) : ∃ v a st2, st = v :: vR a :: st2 ∧ (a < h.1 ∧ (h.2.2 a).1 = 10 + x ∧ y < (h.2.2 a).2.1 ∧ am_fok (ft x y) v = true) ∧ r = am_nx (pc + len, ls, st2, am_wr h a y v) := by
  unfold am_pf at e
  split at e
  · rename_i v a st2 hst
    split at e
    · rename_i hk
      exact ⟨v, a, st2, hst, hk, (Option.some.inj e).symm⟩
    · cases e
  · cases e
theorem iv_ald {ok : Nat → Bool} {len x y pc : Nat} {ls st : List am_V} {h : am_H} {r} (e : (am_ald ok) len x y (pc, ls, st, h) = some r) : ∃ i a st2, st = vI i :: vR a :: st2 ∧ (a < h.1 ∧ ok (h.2.2 a).1 = true ∧ 0 ≤ i ∧ i < ((h.2.2 a).2.1 : Int)) ∧ r = am_nx (pc + len, ls, (h.2.2 a).2.2 i.toNat :: st2, h) := by
  unfold am_ald at e
  split at e
  · rename_i i a st2 hst
    split at e
    · rename_i hk
      exact ⟨i, a, st2, hst, hk, (Option.some.inj e).symm⟩
    · cases e
  · cases e
theorem iv_ast {k vk : Nat} {len x y pc : Nat} {ls st : List am_V} {h : am_H} {r} (e : (am_ast k vk) len x y (pc, ls, st, h) = some r) : ∃ v i a st2, st = v :: vI i :: vR a :: st2 ∧ (a < h.1 ∧ (h.2.2 a).1 = k ∧ am_fok vk v = true ∧ 0 ≤ i ∧ i < ((h.2.2 a).2.1 : Int)) ∧ r = am_nx (pc + len, ls, st2, am_wr h a i.toNat v) := by
  unfold am_ast at e
  split at e
  · rename_i v i a st2 hst
    split at e
    · rename_i hk
      exact ⟨v, i, a, st2, hst, hk, (Option.some.inj e).symm⟩
    · cases e
  · cases e
theorem iv_aast {len x y pc : Nat} {ls st : List am_V} {h : am_H} {r} (e : am_aast len x y (pc, ls, st, h) = some r) : ∃ b i a st2, st = vR b :: vI i :: vR a :: st2 ∧ (a < h.1 ∧ b < h.1 ∧ 4 ≤ (h.2.2 a).1 ∧ (h.2.2 a).1 < 7 ∧ (h.2.2 b).1 = am_comp (h.2.2 a).1 ∧ 0 ≤ i ∧ i < ((h.2.2 a).2.1 : Int)) ∧ r = am_nx (pc + len, ls, st2, am_wr h a i.toNat (vR b)) := by
  unfold am_aast at e
  split at e
  · rename_i b i a st2 hst
    split at e
    · rename_i hk
      exact ⟨b, i, a, st2, hst, hk, (Option.some.inj e).symm⟩
    · cases e
  · cases e
theorem iv_len {len x y pc : Nat} {ls st : List am_V} {h : am_H} {r} (e : am_len len x y (pc, ls, st, h) = some r) : ∃ a st2, st = vR a :: st2 ∧ (a < h.1 ∧ (h.2.2 a).1 < 7) ∧ r = am_nx (pc + len, ls, vI ((h.2.2 a).2.1 : Int) :: st2, h) := by
  unfold am_len at e
  split at e
  · rename_i a st2 hst
    split at e
    · rename_i hk
      exact ⟨a, st2, hst, hk, (Option.some.inj e).symm⟩
    · cases e
  · cases e
theorem iv_newa {lo hi : Nat} {len x y pc : Nat} {ls st : List am_V} {h : am_H} {r} (e : (am_newa lo hi) len x y (pc, ls, st, h) = some r) : ∃ n st2, st = vI n :: st2 ∧ (0 ≤ n ∧ n ≤ 1024 ∧ lo ≤ x ∧ x ≤ hi) ∧ r = am_nx (pc + len, ls, vR h.1 :: st2, am_mk h x n.toNat (fun _ => am_dv x)) := by
  unfold am_newa at e
  split at e
  · rename_i n st2 hst
    split at e
    · rename_i hk
      exact ⟨n, st2, hst, hk, (Option.some.inj e).symm⟩
    · cases e
  · cases e
theorem iv_mna {len x y pc : Nat} {ls st : List am_V} {h : am_H} {r} (e : am_mna len x y (pc, ls, st, h) = some r) : ∃ k n st2, st = vI k :: vI n :: st2 ∧ (0 ≤ n ∧ n ≤ 1024 ∧ 0 ≤ k ∧ k ≤ 1024) ∧ r = am_nx (pc + len, ls, vR h.1 :: st2, am_grid h n.toNat k.toNat) := by
  unfold am_mna at e
  split at e
  · rename_i k n st2 hst
    split at e
    · rename_i hk
      exact ⟨k, n, st2, hst, hk, (Option.some.inj e).symm⟩
    · cases e
  · cases e
theorem iv_acopy {len x y pc : Nat} {ls st : List am_V} {h : am_H} {r} (e : am_acopy len x y (pc, ls, st, h) = some r) : ∃ n dp b sp a, st = [vI n, vI dp, vR b, vI sp, vR a] ∧ (a < h.1 ∧ b < h.1 ∧ (h.2.2 a).1 = (h.2.2 b).1 ∧ ((h.2.2 a).1 = 0 ∨ (h.2.2 a).1 = 2) ∧ 0 ≤ n ∧ 0 ≤ sp ∧ 0 ≤ dp ∧ sp + n ≤ ((h.2.2 a).2.1 : Int) ∧ dp + n ≤ ((h.2.2 b).2.1 : Int)) ∧ r = am_nx (pc + len, ls, [], (h.1, h.2.1, am_up h.2.2 b ((h.2.2 b).1, (h.2.2 b).2.1, am_cpy (h.2.2 a).2.2 (h.2.2 b).2.2 sp.toNat dp.toNat n.toNat))) := by
  unfold am_acopy at e
  split at e
  · rename_i n dp b sp a hst
    split at e
    · rename_i hk
      exact ⟨n, dp, b, sp, a, hst, hk, (Option.some.inj e).symm⟩
    · cases e
  · cases e
theorem iv_sw {d lo hi : Int} {offs : Array Int} {len x y pc : Nat} {ls st : List am_V} {h : am_H} {r} (e : am_sw d lo hi offs len x y (pc, ls, st, h) = some r) : ∃ a st2, st = vI a :: st2 ∧ (((a < lo ∨ hi < a) ∧ r = am_nx (((pc : Int) + d).toNat, ls, st2, h)) ∨ (¬ (a < lo ∨ hi < a) ∧ ∃ o, offs[(a - lo).toNat]? = some o ∧ r = am_nx (((pc : Int) + o).toNat, ls, st2, h))) := by
  unfold am_sw at e
  split at e
  · rename_i a st2 hst
    refine ⟨a, st2, hst, ?_⟩
    split at e
    · rename_i hk
      exact Or.inl ⟨hk, (Option.some.inj e).symm⟩
    · rename_i hk
      split at e
      · rename_i o ho
        exact Or.inr ⟨hk, o, ho, (Option.some.inj e).symm⟩
      · cases e
  · cases e
theorem iv_ret {len x y pc : Nat} {ls st : List am_V} {h : am_H} {r} (e : am_ret len x y (pc, ls, st, h) = some r) : ∃ v, st = [v] ∧ am_fok x v = true ∧ r = .inr (.inr (some v, h)) := by
  unfold am_ret at e
  split at e
  · rename_i v hst
    split at e
    · rename_i hk
      exact ⟨v, hst, hk, (Option.some.inj e).symm⟩
    · cases e
  · cases e
theorem iv_retv {len x y pc : Nat} {ls st : List am_V} {h : am_H} {r} (e : am_retv len x y (pc, ls, st, h) = some r) : st = [] ∧ r = .inr (.inr (none, h)) := by
  unfold am_retv at e
  split at e
  · rename_i hst
    exact ⟨hst, (Option.some.inj e).symm⟩
  · cases e
theorem iv_inv {len x y pc : Nat} {ls st : List am_V} {h : am_H} {r} (e : am_inv len x y (pc, ls, st, h) = some r) : (x = 900 ∧ ∃ a, st = [vR a] ∧ r = am_nx (pc + len, ls, [], h)) ∨ (x = 901 ∧ am_acopy len x y (pc, ls, st, h) = some r) ∨ (x ≠ 900 ∧ x ≠ 901 ∧ y ≤ st.length ∧ ((st.drop y).map am_cat).sum ≤ 8 ∧ am_rcv h x (st.take y).reverse = true ∧ r = .inr (.inl (x % 1000, (st.take y).reverse, pc + len, ls, st.drop y, h))) := by
  unfold am_inv at e
  split at e
  · rename_i hx
    refine Or.inl ⟨hx, ?_⟩
    split at e
    · rename_i a hst
      exact ⟨a, hst, (Option.some.inj e).symm⟩
    · cases e
  · rename_i hx
    split at e
    · rename_i hx2
      exact Or.inr (Or.inl ⟨hx2, e⟩)
    · rename_i hx2
      split at e
      · rename_i hk
        exact Or.inr (Or.inr ⟨hx, hx2, hk.1, hk.2.1, hk.2.2, (Option.some.inj e).symm⟩)
      · cases e
end
section
/-! Every step, by its instruction. -/
/-- the array classes over the claim's classes and over int[] -/
def am_AO (U : State) : Prop := va_AO "StrandBoxes$Boxes" U ∧ va_AO "StrandBoxes$Halves" U ∧ va_AO "StrandBoxes$Sum" U ∧ va_AOA .int U
theorem am_AO.at {U : State} {x : Nat} {C : String} (h : am_AO U) (h4 : 4 ≤ x) (h7 : x < 7) (hC : am_ty x = .object C) : va_AO C U := by
  rcases (show x = 4 ∨ x = 5 ∨ x = 6 by omega) with rfl | rfl | rfl
  · cases hC
    exact h.1
  · cases hC
    exact h.2.1
  · cases hC
    exact h.2.2.1
theorem am_ao_vm {ty : FieldType} {u U : State} (e : u.vm = U.vm) (h : (Cond.arrayOver ty).before #[] u = true) : (Cond.arrayOver ty).before #[] U = true := by
  unfold Cond.before Cond.holds at h ⊢
  simp only [Cond.value] at h ⊢
  rw [← e]
  exact h
theorem am_ao_warm {ty : FieldType} {s U : State} (hW : s.WarmedH U.vm) (h : (Cond.arrayOver ty).before #[] s = true) : (Cond.arrayOver ty).before #[] U = true := am_ao_vm (u := s.setVm U.vm) rfl (by rw [Cond.arrayOver_setVmC hW.alike]; exact h)
theorem am_AO.warm {s U : State} (hW : s.WarmedH U.vm) (h : am_AO s) : am_AO U := ⟨am_ao_warm hW h.1, am_ao_warm hW h.2.1, am_ao_warm hW h.2.2.1, am_ao_warm hW h.2.2.2⟩
theorem am_AO.same {u U : State} (e : u.vm = U.vm) (h : am_AO u) : am_AO U := ⟨am_ao_vm e h.1, am_ao_vm e h.2.1, am_ao_vm e h.2.2.1, am_ao_vm e h.2.2.2⟩
theorem am_is0 {v : am_V} (h : am_is 0 v = true) : ∃ x, v = vI x := by
  rcases v with (x | x) | _ | _ | a
  · exact ⟨x, rfl⟩
  · cases h
  · cases h
  · cases h
  · cases h
theorem am_is1 {v : am_V} (h : am_is 1 v = true) : ∃ x, v = vL x := by
  rcases v with (x | x) | _ | _ | a
  · cases h
  · exact ⟨x, rfl⟩
  · cases h
  · cases h
  · cases h
theorem am_is2 {v : am_V} (h : am_is 2 v = true) : ∃ a, v = vR a := by
  rcases v with (x | x) | _ | _ | a
  · cases h
  · cases h
  · cases h
  · cases h
  · exact ⟨a, rfl⟩
theorem am_is02 {ad : Nat → Nat} {v : am_V} (h : (am_is 0 v || am_is 2 v) = true) : (am_cv ad v).category = 1 := by
  rcases v with (x | x) | _ | _ | a
  · rfl
  · cases h
  · cases h
  · cases h
  · rfl
theorem am_div_inv {a b z : Int} (h : am_div a b = some z) : b ≠ 0 ∧ z = am_w (a.tdiv b) := by
  unfold am_div at h
  split at h
  · cases h
  · rename_i q
    exact ⟨q, (Option.some.inj h).symm⟩
theorem am_rem_inv {a b z : Int} (h : am_rem a b = some z) : b ≠ 0 ∧ z = a.tmod b := by
  unfold am_rem at h
  split at h
  · cases h
  · rename_i q
    exact ⟨q, (Option.some.inj h).symm⟩
theorem am_divl_inv {a b z : Int} (h : am_divl a b = some z) : b ≠ 0 ∧ z = am_wl (a.tdiv b) := by
  unfold am_divl at h
  split at h
  · cases h
  · rename_i q
    exact ⟨q, (Option.some.inj h).symm⟩
/-- what a row of code says beside its instruction, and what it needs of the tables -/
def am_rk (ft : am_ft) (own : String) (ini : Prop) (Ts : List Cond) (R : Room) (pc : Nat) (row : am_I) : Prop := match row with
  | (.iconst n, len, _, _) => len = 1 ∧ am_r32 n
  | (.bipush n, len, _, _) => len = 2 ∧ am_r32 n ∧ (Int8.ofInt n).toInt32 = Int32.ofInt n
  | (.sipush n, len, _, _) => len = 3 ∧ am_r32 n ∧ (Int16.ofInt n).toInt32 = Int32.ofInt n
  | (.lconst _, len, _, _) => len = 1
  | (.ldc i, len, x, y) => len = 2 ∧ am_r32 (am_cst x y) ∧ Cond.constant own i (Int32.ofInt (am_cst x y)) ∈ Ts
  | (.ldc2_w i, len, x, y) => len = 3 ∧ am_r64 (am_cst x y) ∧ Cond.constantLong own i (Int64.ofInt (am_cst x y)) ∈ Ts
  | (.iload_n _, len, _, _) => len = 1
  | (.iload _, len, _, _) => len = 2
  | (.lload_n _, len, _, _) => len = 1
  | (.lload _, len, _, _) => len = 2
  | (.aload_n _, len, _, _) => len = 1
  | (.aload _, len, _, _) => len = 2
  | (.istore_n _, len, _, _) => len = 1
  | (.istore _, len, _, _) => len = 2
  | (.lstore_n _, len, _, _) => len = 1
  | (.lstore _, len, _, _) => len = 2
  | (.astore_n _, len, _, _) => len = 1
  | (.astore _, len, _, _) => len = 2
  | (.iinc _ _, len, _, _) => len = 3
  | (.ifCond _ off, len, x, _) => len = 3 ∧ (pc : Int) + off = (x : Int)
  | (.if_icmp _ off, len, x, _) => len = 3 ∧ (pc : Int) + off = (x : Int)
  | (.goto off, len, x, _) => len = 3 ∧ (pc : Int) + off = (x : Int)
  | (.tableswitch d _ _ offs, _, _, _) => 0 ≤ (pc : Int) + d ∧ ∀ o ∈ offs.toList, 0 ≤ (pc : Int) + o
  | (.getfield i, len, x, y) => len = 3 ∧ am_fl own i x y Ts
  | (.putfield i, len, x, y) => len = 3 ∧ ∃ (C : String) (T : u_T) (N : Nat) (tyf : Nat → FieldType), vwCl[x]? = some (C, T, N) ∧ y < N ∧ Cond.fieldLink own i (T y).1 (T y).2.1 (T y).2.2.1 ∈ Ts ∧ (∀ w ∈ u_ws C T N, w ∈ Ts) ∧ (∀ k, k < N → parseFieldDescriptor (T k).2.2.1 = some (tyf k)) ∧ (∀ a, a < N → ∀ b, b < N → a ≠ b → (T a).2.1 ≠ (T b).2.1) ∧ am_tk (ft x y) (tyf y) = true ∧ ((T y).2.2.2 = false ∨ ((T y).2.2.2 = true ∧ ini ∧ (T y).1 = own))
  | (.new i, len, x, y) => len = 3 ∧ ∃ (C : String) (T : u_T) (tyf : Nat → FieldType), vwCl[x]? = some (C, T, y) ∧ (∀ w ∈ u_ws C T y, w ∈ Ts) ∧ (∀ k, k < y → parseFieldDescriptor (T k).2.2.1 = some (tyf k)) ∧ (∀ k, k < y → am_tk (ft x k) (tyf k) = true) ∧ Cond.classLink own i C ∈ Ts ∧ Cond.instantiable C y ∈ Ts ∧ Cond.initialized C ∈ Ts
  | (.newarray at9, len, x, _) => len = 2 ∧ newarray.typeOf at9 = am_ty x ∧ Cond.arrayClass (newarray.typeOf at9) ∈ Ts
  | (.anewarray i, len, x, _) => len = 3 ∧ ∃ C, am_ty x = .object C ∧ Cond.classLink own i C ∈ Ts
  | (.multianewarray i d, len, _, _) => len = 4 ∧ d = 2 ∧ Cond.classLink own i ("[" ++ (FieldType.array .int).toString) ∈ Ts ∧ Cond.arrayClass .int ∈ Ts
  | (.invokevirtual _, len, x, _) => len = 3 ∧ x ≠ 900 ∧ x ≠ 901
  | (.invokestatic i, len, x, _) => len = 3 ∧ x ≠ 900 ∧ (x = 901 → Cond.methodLink own i arraycopyName ∈ Ts ∧ Cond.native arraycopyName ∈ Ts ∧ Cond.static arraycopyName ∈ Ts ∧ Cond.initialized "java/lang/System" ∈ Ts ∧ 1 ≤ R.frames ∧ nativeFrameWords "java/lang/System" "arraycopy" 5 + 11 ≤ R.locals)
  | (.invokespecial i, len, x, _) => len = 3 ∧ x ≠ 901 ∧ (x = 900 → Cond.methodLink own i Lib.objectInit ∈ Ts ∧ Cond.instanceMethod Lib.objectInit ∈ Ts ∧ Cond.code Lib.objectInit ⟨#[0xb1]⟩ 1 none ∈ Ts ∧ 1 ≤ R.frames ∧ 12 ≤ R.locals)
  | (.iadd, len, _, _) => len = 1
  | (.isub, len, _, _) => len = 1
  | (.imul, len, _, _) => len = 1
  | (.idiv, len, _, _) => len = 1
  | (.irem, len, _, _) => len = 1
  | (.ineg, len, _, _) => len = 1
  | (.iand, len, _, _) => len = 1
  | (.ixor, len, _, _) => len = 1
  | (.ishl, len, _, _) => len = 1
  | (.ishr, len, _, _) => len = 1
  | (.ladd, len, _, _) => len = 1
  | (.lmul, len, _, _) => len = 1
  | (.ldiv, len, _, _) => len = 1
  | (.lneg, len, _, _) => len = 1
  | (.land, len, _, _) => len = 1
  | (.lor, len, _, _) => len = 1
  | (.lshl, len, _, _) => len = 1
  | (.lshr, len, _, _) => len = 1
  | (.lushr, len, _, _) => len = 1
  | (.lcmp, len, _, _) => len = 1
  | (.i2l, len, _, _) => len = 1
  | (.l2i, len, _, _) => len = 1
  | (.iaload, len, _, _) => len = 1
  | (.baload, len, _, _) => len = 1
  | (.laload, len, _, _) => len = 1
  | (.aaload, len, _, _) => len = 1
  | (.iastore, len, _, _) => len = 1
  | (.bastore, len, _, _) => len = 1
  | (.lastore, len, _, _) => len = 1
  | (.aastore, len, _, _) => len = 1
  | (.arraylength, len, _, _) => len = 1
  | (.dup, len, _, _) => len = 1
  | (.dup2, len, _, _) => len = 1
  | (.pop, len, _, _) => len = 1
  | (.pop2, len, _, _) => len = 1
  | (.ireturn, len, _, _) => len = 1
  | (.lreturn, len, _, _) => len = 1
  | (.return_, len, _, _) => len = 1
  | _ => False
section SM
variable {p : Program} {l : Launch} {e : Env} {R : Room} {s : State} {m : MethodId} {args : Array Value} {below : List Frame} {meth : Method} {c : Code} {Q : State → Prop} {D : va_G} {ca : Nat → ClassId} {ft : am_ft} {A : Nat → Prop} {n0 z0 : Nat} {ad0 : Nat → Nat} {nL : Nat} {cc : ByteArray}
set_option maxHeartbeats 4000000 in
theorem am_sim {own : String} {Ts : List Cond} {ins : Instr} {len x y pc : Nat} {ls st : List am_V} {h : am_H} {t : am_S} (hx : p.tables.exec = Jvm.exec) (hb : c.code = cc) (hml : c.maxLocals = nL) (hown : s.vm.findClass own = some m.cls) (hts : ∀ w ∈ Ts, w.before args s = true) (hK : va_K D vwCl (am_tys ca) s) (hO : am_AO s) (hA : ∀ q, s.heap.size ≤ q → A q) (hdg : decode cc pc = .ok (ins, len)) (hr : am_rk ft own (meth.name = "<init>") Ts R pc (ins, len, x, y))
    (he : am_sem ft ins len x y (pc, ls, st, h) = some (.inl t)) (hrc : t.2.2.2.1 - n0 ≤ R.cells) (hrs : t.2.2.2.2.1 - z0 ≤ R.slots) (k : am_G p l e R s m args below meth c Q D ca ft A n0 z0 ad0 nL t) : am_G p l e R s m args below meth c Q D ca ft A n0 z0 ad0 nL (pc, ls, st, h) := by
  cases ins
  case iconst n =>
    obtain ⟨rfl, hn⟩ := hr
    cases he
    exact sm_push (v := vI n) hn (fun ad H locs LS k z rest w => lv_iconst hx hb hdg rfl w) k
  case bipush n =>
    obtain ⟨rfl, hn, h8⟩ := hr
    cases he
    exact sm_push (v := vI n) hn (fun ad H locs LS k z rest w => lv_bipush hx hb hdg h8 w) k
  case sipush n =>
    obtain ⟨rfl, hn, h8⟩ := hr
    cases he
    exact sm_push (v := vI n) hn (fun ad H locs LS k z rest w => lv_sipush hx hb hdg h8 w) k
  case lconst n =>
    subst hr
    cases he
    refine sm_push (v := vL (n.val : Int)) (show am_r64 (n.val : Int) by unfold am_r64; have := n.isLt; omega) (fun ad H locs LS k z rest w => lv_lconst hx hb hdg (v := Int64.ofInt (n.val : Int)) ?_ w) k
    rcases n with ⟨n, hn⟩
    rcases (show n = 0 ∨ n = 1 by omega) with rfl | rfl
    · exact (by decide : Int64.ofNat 0 = Int64.ofInt 0)
    · exact (by decide : Int64.ofNat 1 = Int64.ofInt 1)
  case ldc i =>
    obtain ⟨rfl, hn, h8⟩ := hr
    cases he
    exact sm_push (v := vI (am_cst x y)) hn (fun ad H locs LS k z rest w => lv_ldc hx hb hown (hts _ h8) hdg w) k
  case ldc2_w i =>
    obtain ⟨rfl, hn, h8⟩ := hr
    cases he
    exact sm_push (v := vL (am_cst x y)) hn (fun ad H locs LS k z rest w => lv_ldc2 hx hb hown (hts _ h8) hdg w) k
  case iload_n i =>
    subst hr
    obtain ⟨v, h1, h2, e2⟩ := iv_load (len := 1) (x := x) (y := y) he
    obtain ⟨z, rfl⟩ := am_is0 h2
    cases e2
    exact sm_load h1 (fun q => by cases q) (fun ad H locs LS k z rest q w => lv_iload_n hx hb hdg rfl q w) k
  case iload i =>
    subst hr
    obtain ⟨v, h1, h2, e2⟩ := iv_load (len := 2) (x := x) (y := y) he
    obtain ⟨z, rfl⟩ := am_is0 h2
    cases e2
    exact sm_load h1 (fun q => by cases q) (fun ad H locs LS k z rest q w => lv_iload hx hb hdg q w) k
  case lload_n i =>
    subst hr
    obtain ⟨v, h1, h2, e2⟩ := iv_load (len := 1) (x := x) (y := y) he
    obtain ⟨z, rfl⟩ := am_is1 h2
    cases e2
    exact sm_load h1 (fun q => by cases q) (fun ad H locs LS k z rest q w => lv_lload_n hx hb hdg rfl q w) k
  case lload i =>
    subst hr
    obtain ⟨v, h1, h2, e2⟩ := iv_load (len := 2) (x := x) (y := y) he
    obtain ⟨z, rfl⟩ := am_is1 h2
    cases e2
    exact sm_load h1 (fun q => by cases q) (fun ad H locs LS k z rest q w => lv_lload hx hb hdg q w) k
  case aload_n i =>
    subst hr
    obtain ⟨v, h1, h2, e2⟩ := iv_load (len := 1) (x := x) (y := y) he
    obtain ⟨z, rfl⟩ := am_is2 h2
    cases e2
    exact sm_load h1 (fun q => by cases q) (fun ad H locs LS k z rest q w => lv_aload_n hx hb hdg rfl q w) k
  case aload i =>
    subst hr
    obtain ⟨v, h1, h2, e2⟩ := iv_load (len := 2) (x := x) (y := y) he
    obtain ⟨z, rfl⟩ := am_is2 h2
    cases e2
    exact sm_load h1 (fun q => by cases q) (fun ad H locs LS k z rest q w => lv_aload hx hb hdg q w) k
  case istore_n i =>
    subst hr
    obtain ⟨v, st2, rfl, h2, h3, e2⟩ := iv_stor (len := 1) (x := x) (y := y) he
    obtain ⟨z, rfl⟩ := am_is0 h2
    cases e2
    exact sm_stor h3 (fun ad H locs LS k z rest q w => lv_istore_n hx hb hdg rfl q h3 rfl w) k
  case istore i =>
    subst hr
    obtain ⟨v, st2, rfl, h2, h3, e2⟩ := iv_stor (len := 2) (x := x) (y := y) he
    obtain ⟨z, rfl⟩ := am_is0 h2
    cases e2
    exact sm_stor h3 (fun ad H locs LS k z rest q w => lv_istore hx hb hdg q h3 rfl w) k
  case astore_n i =>
    subst hr
    obtain ⟨v, st2, rfl, h2, h3, e2⟩ := iv_stor (len := 1) (x := x) (y := y) he
    obtain ⟨z, rfl⟩ := am_is2 h2
    cases e2
    exact sm_stor h3 (fun ad H locs LS k z rest q w => lv_astore_n hx hb hdg rfl q h3 rfl w) k
  case astore i =>
    subst hr
    obtain ⟨v, st2, rfl, h2, h3, e2⟩ := iv_stor (len := 2) (x := x) (y := y) he
    obtain ⟨z, rfl⟩ := am_is2 h2
    cases e2
    exact sm_stor h3 (fun ad H locs LS k z rest q w => lv_astore hx hb hdg q h3 rfl w) k
  case lstore_n i =>
    subst hr
    obtain ⟨z, st2, rfl, h3, e2⟩ := iv_storl (len := 1) (x := x) (y := y) he
    cases e2
    exact sm_storl h3 (fun ad H locs LS k z rest q w => lv_lstore_n hx hb hdg rfl q h3 rfl w) k
  case lstore i =>
    subst hr
    obtain ⟨z, st2, rfl, h3, e2⟩ := iv_storl (len := 2) (x := x) (y := y) he
    cases e2
    exact sm_storl h3 (fun ad H locs LS k z rest q w => lv_lstore hx hb hdg q h3 rfl w) k
  case iinc i n =>
    subst hr
    obtain ⟨z, h1, e2⟩ := iv_iinc (len := 3) (x := x) (y := y) he
    cases e2
    exact sm_iinc hx hb hdg h1 k
  case iadd =>
    subst hr
    obtain ⟨a, b, z, st2, rfl, hf, e2⟩ := iv_bin (len := 1) (x := x) (y := y) he
    cases hf
    cases e2
    exact sm_bin (g := fun x y => x + y) (fun _ _ => ⟨am_w_r _, am_o_add _ _⟩) (fun H locs LS k z rest _ _ w => lv_iadd hx hb hdg w) k
  case isub =>
    subst hr
    obtain ⟨a, b, z, st2, rfl, hf, e2⟩ := iv_bin (len := 1) (x := x) (y := y) he
    cases hf
    cases e2
    exact sm_bin (g := fun x y => x - y) (fun _ _ => ⟨am_w_r _, am_o_sub _ _⟩) (fun H locs LS k z rest _ _ w => lv_isub hx hb hdg w) k
  case imul =>
    subst hr
    obtain ⟨a, b, z, st2, rfl, hf, e2⟩ := iv_bin (len := 1) (x := x) (y := y) he
    cases hf
    cases e2
    exact sm_bin (g := fun x y => x * y) (fun _ _ => ⟨am_w_r _, am_o_mul _ _⟩) (fun H locs LS k z rest _ _ w => lv_imul hx hb hdg w) k
  case iand =>
    subst hr
    obtain ⟨a, b, z, st2, rfl, hf, e2⟩ := iv_bin (len := 1) (x := x) (y := y) he
    cases hf
    cases e2
    exact sm_bin (g := fun x y => x &&& y) (fun _ _ => ⟨am_rI _, Int32.ofInt_toInt _⟩) (fun H locs LS k z rest _ _ w => lv_iand hx hb hdg w) k
  case ixor =>
    subst hr
    obtain ⟨a, b, z, st2, rfl, hf, e2⟩ := iv_bin (len := 1) (x := x) (y := y) he
    cases hf
    cases e2
    exact sm_bin (g := fun x y => x ^^^ y) (fun _ _ => ⟨am_rI _, Int32.ofInt_toInt _⟩) (fun H locs LS k z rest _ _ w => lv_ixor hx hb hdg w) k
  case ishl =>
    subst hr
    obtain ⟨a, b, z, st2, rfl, hf, e2⟩ := iv_bin (len := 1) (x := x) (y := y) he
    cases hf
    cases e2
    exact sm_bin (g := fun x y => x <<< (y &&& 31)) (fun _ _ => ⟨am_rI _, Int32.ofInt_toInt _⟩) (fun H locs LS k z rest _ _ w => lv_ishl hx hb hdg w) k
  case ishr =>
    subst hr
    obtain ⟨a, b, z, st2, rfl, hf, e2⟩ := iv_bin (len := 1) (x := x) (y := y) he
    cases hf
    cases e2
    exact sm_bin (g := fun x y => x >>> (y &&& 31)) (fun _ _ => ⟨am_rI _, Int32.ofInt_toInt _⟩) (fun H locs LS k z rest _ _ w => lv_ishr hx hb hdg w) k
  case idiv =>
    subst hr
    obtain ⟨a, b, z, st2, rfl, hf, e2⟩ := iv_bin (len := 1) (x := x) (y := y) he
    obtain ⟨hne, rfl⟩ := am_div_inv hf
    cases e2
    exact sm_bin (g := fun x y => x / y) (fun q1 q2 => ⟨am_w_r _, am_o_div q1 q2⟩) (fun H locs LS k z rest q1 q2 w => lv_idiv hx hb hdg (fun q => hne ((am_o_eq q2 am_0r).mp q)) w) k
  case irem =>
    subst hr
    obtain ⟨a, b, z, st2, rfl, hf, e2⟩ := iv_bin (len := 1) (x := x) (y := y) he
    obtain ⟨hne, rfl⟩ := am_rem_inv hf
    cases e2
    exact sm_bin (g := fun x y => x - x / y * y) (fun q1 q2 => ⟨am_tmod_r q1, am_o_rem q1 q2⟩) (fun H locs LS k z rest q1 q2 w => lv_irem hx hb hdg (fun q => hne ((am_o_eq q2 am_0r).mp q)) w) k
  case ineg =>
    subst hr
    obtain ⟨a, st2, rfl, e2⟩ := iv_un (len := 1) (x := x) (y := y) he
    cases e2
    exact sm_stk (us := [vI a]) (us2 := [vI (am_w (-a))]) (fun _ w hw => by rw [List.mem_singleton.mp hw]; exact am_w_r _) (fun ad H locs LS k z rest q w => lv_ineg hx hb hdg (by rw [← am_o_neg]; exact w)) k
  case ladd =>
    subst hr
    obtain ⟨a, b, z, st2, rfl, hf, e2⟩ := iv_binl (len := 1) (x := x) (y := y) he
    cases hf
    cases e2
    exact sm_binl (g := fun x y => x + y) (fun _ _ => ⟨am_wl_r _, am_l_add _ _⟩) (fun H locs LS k z rest _ _ w => lv_ladd hx hb hdg w) k
  case lmul =>
    subst hr
    obtain ⟨a, b, z, st2, rfl, hf, e2⟩ := iv_binl (len := 1) (x := x) (y := y) he
    cases hf
    cases e2
    exact sm_binl (g := fun x y => x * y) (fun _ _ => ⟨am_wl_r _, am_l_mul _ _⟩) (fun H locs LS k z rest _ _ w => lv_lmul hx hb hdg w) k
  case land =>
    subst hr
    obtain ⟨a, b, z, st2, rfl, hf, e2⟩ := iv_binl (len := 1) (x := x) (y := y) he
    cases hf
    cases e2
    exact sm_binl (g := fun x y => x &&& y) (fun _ _ => ⟨am_rL _, Int64.ofInt_toInt _⟩) (fun H locs LS k z rest _ _ w => lv_land hx hb hdg w) k
  case lor =>
    subst hr
    obtain ⟨a, b, z, st2, rfl, hf, e2⟩ := iv_binl (len := 1) (x := x) (y := y) he
    cases hf
    cases e2
    exact sm_binl (g := fun x y => x ||| y) (fun _ _ => ⟨am_rL _, Int64.ofInt_toInt _⟩) (fun H locs LS k z rest _ _ w => lv_lor hx hb hdg w) k
  case ldiv =>
    subst hr
    obtain ⟨a, b, z, st2, rfl, hf, e2⟩ := iv_binl (len := 1) (x := x) (y := y) he
    obtain ⟨hne, rfl⟩ := am_divl_inv hf
    cases e2
    exact sm_binl (g := fun x y => x / y) (fun q1 q2 => ⟨am_wl_r _, am_l_div q1 q2⟩) (fun H locs LS k z rest q1 q2 w => lv_ldiv hx hb hdg (fun q => hne ((am_l_eq q2 am_0l).mp q)) w) k
  case lneg =>
    subst hr
    obtain ⟨a, st2, rfl, e2⟩ := iv_unl (len := 1) (x := x) (y := y) he
    cases e2
    exact sm_stk (us := [vL a]) (us2 := [vL (am_wl (-a))]) (fun _ w hw => by rw [List.mem_singleton.mp hw]; exact am_wl_r _) (fun ad H locs LS k z rest q w => lv_lneg hx hb hdg (by rw [← am_l_neg]; exact w)) k
  case lshl =>
    subst hr
    obtain ⟨a, b, z, st2, rfl, hf, e2⟩ := iv_shl (len := 1) (x := x) (y := y) he
    cases hf
    cases e2
    exact sm_shl (g := fun x y => x <<< (y.toInt64 &&& 63)) (Int64.ofInt_toInt _) (am_rL _) (fun H locs LS k z rest w => lv_lshl hx hb hdg rfl w) k
  case lshr =>
    subst hr
    obtain ⟨a, b, z, st2, rfl, hf, e2⟩ := iv_shl (len := 1) (x := x) (y := y) he
    cases hf
    cases e2
    exact sm_shl (g := fun x y => x >>> (y.toInt64 &&& 63)) (Int64.ofInt_toInt _) (am_rL _) (fun H locs LS k z rest w => lv_lshr hx hb hdg rfl w) k
  case lushr =>
    subst hr
    obtain ⟨a, b, z, st2, rfl, hf, e2⟩ := iv_shl (len := 1) (x := x) (y := y) he
    cases hf
    cases e2
    exact sm_shl (g := fun x y => (x.toUInt64 >>> (y.toInt64.toUInt64 &&& Int64.toUInt64 63)).toInt64) (Int64.ofInt_toInt _) (am_rL _) (fun H locs LS k z rest w => lv_lushr hx hb hdg rfl w) k
  case lcmp =>
    subst hr
    obtain ⟨b, a, st2, rfl, e2⟩ := iv_lcmp (len := 1) (x := x) (y := y) he
    cases e2
    exact sm_stk (us := [vL b, vL a]) (us2 := [vI (if a < b then -1 else if a = b then 0 else 1)]) (fun _ w hw => by rw [List.mem_singleton.mp hw]; show am_r32 _; unfold am_r32; split <;> (try split) <;> omega) (fun ad H locs LS k z rest q w => W.lcmp hx hb hdg (by rw [← am_o_cmp (q (vL a) (by simp)) (q (vL b) (by simp))]; exact w)) k
  case i2l =>
    subst hr
    obtain ⟨a, st2, rfl, e2⟩ := iv_i2l (len := 1) (x := x) (y := y) he
    cases e2
    exact sm_stk (us := [vI a]) (us2 := [vL a]) (fun q w hw => by rw [List.mem_singleton.mp hw]; exact am_32_64 (q (vI a) (by simp))) (fun ad H locs LS k z rest q w => lv_i2l hx hb hdg (am_o_i2l (q (vI a) (by simp))) w) k
  case l2i =>
    subst hr
    obtain ⟨a, st2, rfl, e2⟩ := iv_l2i (len := 1) (x := x) (y := y) he
    cases e2
    exact sm_stk (us := [vL a]) (us2 := [vI (am_w a)]) (fun q w hw => by rw [List.mem_singleton.mp hw]; exact am_w_r _) (fun ad H locs LS k z rest q w => lv_l2i hx hb hdg (am_o_l2i a) w) k
  case ifCond cnd off =>
    obtain ⟨rfl, ht⟩ := hr
    obtain ⟨a, st2, rfl, e2⟩ := iv_if (len := 3) (x := x) (y := y) he
    cases e2
    exact sm_if hx hb hdg ht k
  case if_icmp cnd off =>
    obtain ⟨rfl, ht⟩ := hr
    obtain ⟨b, a, st2, rfl, e2⟩ := iv_icmp (len := 3) (x := x) (y := y) he
    cases e2
    exact sm_icmp hx hb hdg ht k
  case goto off =>
    obtain ⟨rfl, ht⟩ := hr
    cases he
    exact sm_goto hx hb hdg ht k
  case tableswitch d lo hi offs =>
    obtain ⟨h0, h8⟩ := hr
    obtain ⟨a, st2, rfl, e2⟩ := iv_sw (len := len) (x := x) (y := y) he
    rcases e2 with ⟨q, e2⟩ | ⟨q, o, ho, e2⟩
    · cases e2
      exact sm_sw1 hx hb hdg q h0 k
    · cases e2
      exact sm_sw2 hx hb hdg q ho (h8 o (by rw [← Array.getElem?_toList] at ho; exact List.mem_of_getElem? ho)) k
  case getfield i =>
    obtain ⟨rfl, hf⟩ := hr
    obtain ⟨a, st2, rfl, ⟨q1, q2, q3⟩, e2⟩ := iv_gf (len := 3) (x := x) (y := y) he
    cases e2
    exact sm_gf hx hb hown hts hK hdg hf q1 q2 q3 k
  case putfield i =>
    obtain ⟨rfl, C, T, N, tyf, f1, f2, f3, f4, f5, f6, f7, f8⟩ := hr
    obtain ⟨v, a, st2, rfl, ⟨q1, q2, q3, q4⟩, e2⟩ := iv_pf (len := 3) (x := x) (y := y) he
    cases e2
    exact sm_pf tyf hx hb hown hts hK hdg f1 f2 f3 f4 f5 f6 f7 f8 q1 q2 q3 q4 k
  case iaload =>
    subst hr
    obtain ⟨i, a, st2, rfl, ⟨q1, q2, q3, q4⟩, e2⟩ := iv_ald (len := 1) (x := x) (y := y) (ok := fun k => k == 0) he
    cases e2
    exact sm_iald hx hb hK hdg q1 (by simpa using q2) q3 q4 k
  case baload =>
    subst hr
    obtain ⟨i, a, st2, rfl, ⟨q1, q2, q3, q4⟩, e2⟩ := iv_ald (len := 1) (x := x) (y := y) (ok := fun k => k == 1) he
    cases e2
    exact sm_zald hx hb hK hdg q1 (by simpa using q2) q3 q4 k
  case laload =>
    subst hr
    obtain ⟨i, a, st2, rfl, ⟨q1, q2, q3, q4⟩, e2⟩ := iv_ald (len := 1) (x := x) (y := y) (ok := fun k => k == 2) he
    cases e2
    exact sm_lald hx hb hK hdg q1 (by simpa using q2) q3 q4 k
  case aaload =>
    subst hr
    obtain ⟨i, a, st2, rfl, ⟨q1, q2, q3, q4⟩, e2⟩ := iv_ald (len := 1) (x := x) (y := y) (ok := fun k => decide (3 ≤ k) && decide (k < 7)) he
    cases e2
    simp only [Bool.and_eq_true, decide_eq_true_eq] at q2
    exact sm_aald hx hb hK hdg q1 q2.1 q2.2 q3 q4 k
  case iastore =>
    subst hr
    obtain ⟨v, i, a, st2, rfl, ⟨q1, q2, q3, q4, q5⟩, e2⟩ := iv_ast (len := 1) (x := x) (y := y) he
    cases e2
    exact sm_iast hx hb hK hdg q1 q2 q3 q4 q5 k
  case bastore =>
    subst hr
    obtain ⟨v, i, a, st2, rfl, ⟨q1, q2, q3, q4, q5⟩, e2⟩ := iv_ast (len := 1) (x := x) (y := y) he
    cases e2
    exact sm_zast hx hb hK hdg q1 q2 q3 q4 q5 k
  case lastore =>
    subst hr
    obtain ⟨v, i, a, st2, rfl, ⟨q1, q2, q3, q4, q5⟩, e2⟩ := iv_ast (len := 1) (x := x) (y := y) he
    cases e2
    exact sm_last hx hb hK hdg q1 q2 q3 q4 q5 k
  case aastore =>
    subst hr
    obtain ⟨b, i, a, st2, rfl, ⟨q1, q2, q3, q4, q5, q6, q7⟩, e2⟩ := iv_aast (len := 1) (x := x) (y := y) he
    cases e2
    rcases (show (h.2.2 a).1 = 4 ∨ (h.2.2 a).1 = 5 ∨ (h.2.2 a).1 = 6 by omega) with g | g | g
    · exact sm_aast (ci := 0) (r := (RX0, TX0, 11)) hx hb hK hdg q1 q2 (by omega) q4 rfl (by rw [g]; rfl) (by rw [q5, g]; rfl) q6 q7 k
    · exact sm_aast (ci := 2) (r := (RX2, TX2, 7)) hx hb hK hdg q1 q2 (by omega) q4 rfl (by rw [g]; rfl) (by rw [q5, g]; rfl) q6 q7 k
    · exact sm_aast (ci := 3) (r := (RX3, TX3, 5)) hx hb hK hdg q1 q2 (by omega) q4 rfl (by rw [g]; rfl) (by rw [q5, g]; rfl) q6 q7 k
  case arraylength =>
    subst hr
    obtain ⟨a, st2, rfl, ⟨q1, q2⟩, e2⟩ := iv_len (len := 1) (x := x) (y := y) he
    cases e2
    exact sm_len hx hb hK hdg q1 q2 k
  case new i =>
    obtain ⟨rfl, C, T, tyf, f1, f4, f5, f7, f8, f9, f10⟩ := hr
    cases he
    exact sm_new tyf hx hb hown hts hK hA hdg f1 f4 f5 f7 f8 f9 f10 hrc hrs k
  case newarray at9 =>
    obtain ⟨rfl, f1, f2⟩ := hr
    obtain ⟨n, st2, rfl, ⟨q1, q2, q3, q4⟩, e2⟩ := iv_newa (len := 2) (x := x) (y := y) he
    cases e2
    exact sm_newa hx hb hts hK hA hdg (by omega) f1 f2 q1 q2 hrc hrs k
  case anewarray i =>
    obtain ⟨rfl, C, f1, f2⟩ := hr
    obtain ⟨n, st2, rfl, ⟨q1, q2, q3, q4⟩, e2⟩ := iv_newa (len := 3) (x := x) (y := y) he
    cases e2
    exact sm_newq hx hb hown hts hK hA hdg q3 (by omega) f1 f2 (am_AO.at hO q3 (by omega) f1) q1 q2 hrc hrs k
  case multianewarray i d =>
    obtain ⟨rfl, rfl, f1, f3⟩ := hr
    obtain ⟨k9, n, st2, rfl, ⟨q1, q2, q3, q4⟩, e2⟩ := iv_mna (len := 4) (x := x) (y := y) he
    cases e2
    exact sm_mna hx hb hown hts hK hA hdg f1 hO.2.2.2 f3 q1 q2 q3 q4 hrc hrs k
  case dup =>
    subst hr
    obtain ⟨v, st2, rfl, q, e2⟩ := iv_dup (len := 1) (x := x) (y := y) he
    cases e2
    exact sm_stk (us := [v]) (us2 := [v, v]) (fun q w hw => q w (by simpa using hw)) (fun ad H locs LS k z rest _ w => lv_dup hx hb hdg (am_is02 q) w) k
  case dup2 =>
    subst hr
    obtain ⟨v, w9, st2, rfl, q, e2⟩ := iv_dup2 (len := 1) (x := x) (y := y) he
    cases e2
    rw [Bool.and_eq_true] at q
    exact sm_stk (us := [v, w9]) (us2 := [v, w9, v, w9]) (fun q w hw => q w (by simp at hw ⊢; rcases hw with h | h | h | h <;> simp [h])) (fun ad H locs LS k z rest _ w => lv_dup2_11 hx hb hdg (am_is02 q.1) (am_is02 q.2) w) k
  case pop =>
    subst hr
    obtain ⟨v, st2, rfl, q, e2⟩ := iv_pop (len := 1) (x := x) (y := y) he
    obtain ⟨z, rfl⟩ := am_is0 q
    cases e2
    exact sm_stk (us := [vI z]) (us2 := []) (fun _ w hw => by simp at hw) (fun ad H locs LS k z rest _ w => lv_pop hx hb hdg rfl w) k
  case pop2 =>
    subst hr
    obtain ⟨v, st2, rfl, q, e2⟩ := iv_pop (len := 1) (x := x) (y := y) he
    obtain ⟨z, rfl⟩ := am_is1 q
    cases e2
    exact sm_stk (us := [vL z]) (us2 := []) (fun _ w hw => by simp at hw) (fun ad H locs LS k z rest _ w => lv_pop2_2 hx hb hdg rfl w) k
  case invokevirtual i =>
    obtain ⟨rfl, g1, g2⟩ := hr
    rcases iv_inv (len := 3) (x := x) (y := y) he with ⟨q, -⟩ | ⟨q, -⟩ | ⟨-, -, -, -, -, e2⟩
    · exact absurd q g1
    · exact absurd q g2
    · cases e2
  case invokestatic i =>
    obtain ⟨rfl, g1, g2⟩ := hr
    rcases iv_inv (len := 3) (x := x) (y := y) he with ⟨q, -⟩ | ⟨q, e2⟩ | ⟨-, -, -, -, -, e2⟩
    · exact absurd q g1
    · obtain ⟨f1, f2, f3, f4, f5, f6⟩ := g2 q
      obtain ⟨n, dp, b, sp, a, rfl, ⟨q1, q2, q3, q4, q5, q6, q7, q8, q9⟩, e3⟩ := iv_acopy (len := 3) (x := x) (y := y) e2
      cases e3
      exact sm_copy hx hb hml hown hts hK hdg f1 f2 f3 f4 f5 f6 q1 q2 q3 q4 q5 q6 q7 q8 q9 k
    · cases e2
  case invokespecial i =>
    obtain ⟨rfl, g1, g2⟩ := hr
    rcases iv_inv (len := 3) (x := x) (y := y) he with ⟨q, a, rfl, e2⟩ | ⟨q, -⟩ | ⟨-, -, -, -, -, e2⟩
    · obtain ⟨f1, f2, f3, f4, f5⟩ := g2 q
      cases e2
      exact sm_obj hx hb hml hown hts hdg f1 f2 f3 f4 f5 k
    · exact absurd q g1
    · cases e2
  case ireturn =>
    obtain ⟨v, -, -, e2⟩ := iv_ret (len := len) (x := x) (y := y) he
    cases e2
  case lreturn =>
    obtain ⟨v, -, -, e2⟩ := iv_ret (len := len) (x := x) (y := y) he
    cases e2
  case return_ =>
    obtain ⟨-, e2⟩ := iv_retv (len := len) (x := x) (y := y) he
    cases e2
  all_goals exact absurd hr id
end SM
end
section
/-! Calls, returns, the whole run. -/
/-- a step makes cells, takes none away -/
def am_mr (h : am_H) (r : am_S ⊕ ((Nat × List am_V × am_S) ⊕ (Option am_V × am_H))) : Prop := match r with
  | .inl t => h.1 ≤ t.2.2.2.1 ∧ h.2.1 ≤ t.2.2.2.2.1
  | .inr (.inl q) => q.2.2.2.2.2 = h
  | .inr (.inr q) => q.2 = h
theorem mn_load {k i : Nat} {len x y pc : Nat} {ls st : List am_V} {h : am_H} {r} (e : am_load k i len x y (pc, ls, st, h) = some r) : am_mr h r := by
  obtain ⟨_, _, _, e2⟩ := iv_load e
  rw [e2]
  exact ⟨Nat.le_refl _, Nat.le_refl _⟩
theorem mn_stor {k i : Nat} {len x y pc : Nat} {ls st : List am_V} {h : am_H} {r} (e : am_stor k i len x y (pc, ls, st, h) = some r) : am_mr h r := by
  obtain ⟨_, _, _, _, _, e2⟩ := iv_stor e
  rw [e2]
  exact ⟨Nat.le_refl _, Nat.le_refl _⟩
theorem mn_storl {i : Nat} {len x y pc : Nat} {ls st : List am_V} {h : am_H} {r} (e : am_storl i len x y (pc, ls, st, h) = some r) : am_mr h r := by
  obtain ⟨_, _, _, _, e2⟩ := iv_storl e
  rw [e2]
  exact ⟨Nat.le_refl _, Nat.le_refl _⟩
theorem mn_iinc {i : Nat} {n : Int} {len x y pc : Nat} {ls st : List am_V} {h : am_H} {r} (e : am_iinc i n len x y (pc, ls, st, h) = some r) : am_mr h r := by
  obtain ⟨_, _, e2⟩ := iv_iinc e
  rw [e2]
  exact ⟨Nat.le_refl _, Nat.le_refl _⟩
theorem mn_bin {f : Int → Int → Option Int} {len x y pc : Nat} {ls st : List am_V} {h : am_H} {r} (e : am_bin f len x y (pc, ls, st, h) = some r) : am_mr h r := by
  obtain ⟨_, _, _, _, _, _, e2⟩ := iv_bin e
  rw [e2]
  exact ⟨Nat.le_refl _, Nat.le_refl _⟩
theorem mn_binl {f : Int → Int → Option Int} {len x y pc : Nat} {ls st : List am_V} {h : am_H} {r} (e : am_binl f len x y (pc, ls, st, h) = some r) : am_mr h r := by
  obtain ⟨_, _, _, _, _, _, e2⟩ := iv_binl e
  rw [e2]
  exact ⟨Nat.le_refl _, Nat.le_refl _⟩
theorem mn_shl {f : Int → Int → Option Int} {len x y pc : Nat} {ls st : List am_V} {h : am_H} {r} (e : am_shl f len x y (pc, ls, st, h) = some r) : am_mr h r := by
  obtain ⟨_, _, _, _, _, _, e2⟩ := iv_shl e
  rw [e2]
  exact ⟨Nat.le_refl _, Nat.le_refl _⟩
theorem mn_un {f : Int → Int} {len x y pc : Nat} {ls st : List am_V} {h : am_H} {r} (e : am_un f len x y (pc, ls, st, h) = some r) : am_mr h r := by
  obtain ⟨_, _, _, e2⟩ := iv_un e
  rw [e2]
  exact ⟨Nat.le_refl _, Nat.le_refl _⟩
theorem mn_unl {f : Int → Int} {len x y pc : Nat} {ls st : List am_V} {h : am_H} {r} (e : am_unl f len x y (pc, ls, st, h) = some r) : am_mr h r := by
  obtain ⟨_, _, _, e2⟩ := iv_unl e
  rw [e2]
  exact ⟨Nat.le_refl _, Nat.le_refl _⟩
theorem mn_lcmp {len x y pc : Nat} {ls st : List am_V} {h : am_H} {r} (e : am_lcmp len x y (pc, ls, st, h) = some r) : am_mr h r := by
  obtain ⟨_, _, _, _, e2⟩ := iv_lcmp e
  rw [e2]
  exact ⟨Nat.le_refl _, Nat.le_refl _⟩
theorem mn_i2l {len x y pc : Nat} {ls st : List am_V} {h : am_H} {r} (e : am_i2l len x y (pc, ls, st, h) = some r) : am_mr h r := by
  obtain ⟨_, _, _, e2⟩ := iv_i2l e
  rw [e2]
  exact ⟨Nat.le_refl _, Nat.le_refl _⟩
theorem mn_l2i {len x y pc : Nat} {ls st : List am_V} {h : am_H} {r} (e : am_l2i len x y (pc, ls, st, h) = some r) : am_mr h r := by
  obtain ⟨_, _, _, e2⟩ := iv_l2i e
  rw [e2]
  exact ⟨Nat.le_refl _, Nat.le_refl _⟩
theorem mn_if {cnd : Jvm.ClassFile.Cond} {len x y pc : Nat} {ls st : List am_V} {h : am_H} {r} (e : am_if cnd len x y (pc, ls, st, h) = some r) : am_mr h r := by
  obtain ⟨_, _, _, e2⟩ := iv_if e
  rw [e2]
  exact ⟨Nat.le_refl _, Nat.le_refl _⟩
theorem mn_icmp {cnd : Jvm.ClassFile.Cond} {len x y pc : Nat} {ls st : List am_V} {h : am_H} {r} (e : am_icmp cnd len x y (pc, ls, st, h) = some r) : am_mr h r := by
  obtain ⟨_, _, _, _, e2⟩ := iv_icmp e
  rw [e2]
  exact ⟨Nat.le_refl _, Nat.le_refl _⟩
theorem mn_gf {len x y pc : Nat} {ls st : List am_V} {h : am_H} {r} (e : am_gf len x y (pc, ls, st, h) = some r) : am_mr h r := by
  obtain ⟨_, _, _, _, e2⟩ := iv_gf e
  rw [e2]
  exact ⟨Nat.le_refl _, Nat.le_refl _⟩
theorem mn_pf {ft : am_ft} {len x y pc : Nat} {ls st : List am_V} {h : am_H} {r} (e : am_pf ft len x y (pc, ls, st, h) = some r) : am_mr h r := by
  obtain ⟨_, _, _, _, _, e2⟩ := iv_pf e
  rw [e2]
  exact ⟨Nat.le_refl _, Nat.le_refl _⟩
theorem mn_ald {ok : Nat → Bool} {len x y pc : Nat} {ls st : List am_V} {h : am_H} {r} (e : am_ald ok len x y (pc, ls, st, h) = some r) : am_mr h r := by
  obtain ⟨_, _, _, _, _, e2⟩ := iv_ald e
  rw [e2]
  exact ⟨Nat.le_refl _, Nat.le_refl _⟩
theorem mn_ast {k vk : Nat} {len x y pc : Nat} {ls st : List am_V} {h : am_H} {r} (e : am_ast k vk len x y (pc, ls, st, h) = some r) : am_mr h r := by
  obtain ⟨_, _, _, _, _, _, e2⟩ := iv_ast e
  rw [e2]
  exact ⟨Nat.le_refl _, Nat.le_refl _⟩
theorem mn_aast {len x y pc : Nat} {ls st : List am_V} {h : am_H} {r} (e : am_aast len x y (pc, ls, st, h) = some r) : am_mr h r := by
  obtain ⟨_, _, _, _, _, _, e2⟩ := iv_aast e
  rw [e2]
  exact ⟨Nat.le_refl _, Nat.le_refl _⟩
theorem mn_len {len x y pc : Nat} {ls st : List am_V} {h : am_H} {r} (e : am_len len x y (pc, ls, st, h) = some r) : am_mr h r := by
  obtain ⟨_, _, _, _, e2⟩ := iv_len e
  rw [e2]
  exact ⟨Nat.le_refl _, Nat.le_refl _⟩
theorem mn_dup {len x y pc : Nat} {ls st : List am_V} {h : am_H} {r} (e : am_dup len x y (pc, ls, st, h) = some r) : am_mr h r := by
  obtain ⟨_, _, _, _, e2⟩ := iv_dup e
  rw [e2]
  exact ⟨Nat.le_refl _, Nat.le_refl _⟩
theorem mn_dup2 {len x y pc : Nat} {ls st : List am_V} {h : am_H} {r} (e : am_dup2 len x y (pc, ls, st, h) = some r) : am_mr h r := by
  obtain ⟨_, _, _, _, _, e2⟩ := iv_dup2 e
  rw [e2]
  exact ⟨Nat.le_refl _, Nat.le_refl _⟩
theorem mn_pop {k : Nat} {len x y pc : Nat} {ls st : List am_V} {h : am_H} {r} (e : am_pop k len x y (pc, ls, st, h) = some r) : am_mr h r := by
  obtain ⟨_, _, _, _, e2⟩ := iv_pop e
  rw [e2]
  exact ⟨Nat.le_refl _, Nat.le_refl _⟩
theorem mn_newa {lo hi : Nat} {len x y pc : Nat} {ls st : List am_V} {h : am_H} {r} (e : am_newa lo hi len x y (pc, ls, st, h) = some r) : am_mr h r := by
  obtain ⟨_, _, _, _, e2⟩ := iv_newa e
  rw [e2]
  exact ⟨Nat.le_succ _, Nat.le_add_right _ _⟩
theorem mn_mna {len x y pc : Nat} {ls st : List am_V} {h : am_H} {r} (e : am_mna len x y (pc, ls, st, h) = some r) : am_mr h r := by
  obtain ⟨_, _, _, _, _, e2⟩ := iv_mna e
  rw [e2]
  exact ⟨by show h.1 ≤ h.1 + 1 + _; omega, by show h.2.1 ≤ h.2.1 + _ + _; omega⟩
theorem mn_sem {ft : am_ft} {ins : Instr} {len x y pc : Nat} {ls st : List am_V} {h : am_H} {r} (he : am_sem ft ins len x y (pc, ls, st, h) = some r) : am_mr h r := by
  cases ins
  case iload_n _ => exact mn_load (len := len) (x := x) (y := y) he
  case iload _ => exact mn_load (len := len) (x := x) (y := y) he
  case lload_n _ => exact mn_load (len := len) (x := x) (y := y) he
  case lload _ => exact mn_load (len := len) (x := x) (y := y) he
  case aload_n _ => exact mn_load (len := len) (x := x) (y := y) he
  case aload _ => exact mn_load (len := len) (x := x) (y := y) he
  case istore_n _ => exact mn_stor (len := len) (x := x) (y := y) he
  case istore _ => exact mn_stor (len := len) (x := x) (y := y) he
  case astore_n _ => exact mn_stor (len := len) (x := x) (y := y) he
  case astore _ => exact mn_stor (len := len) (x := x) (y := y) he
  case lstore_n _ => exact mn_storl (len := len) (x := x) (y := y) he
  case lstore _ => exact mn_storl (len := len) (x := x) (y := y) he
  case iinc _ _ => exact mn_iinc (len := len) (x := x) (y := y) he
  case iadd => exact mn_bin (len := len) (x := x) (y := y) he
  case isub => exact mn_bin (len := len) (x := x) (y := y) he
  case imul => exact mn_bin (len := len) (x := x) (y := y) he
  case idiv => exact mn_bin (len := len) (x := x) (y := y) he
  case irem => exact mn_bin (len := len) (x := x) (y := y) he
  case iand => exact mn_bin (len := len) (x := x) (y := y) he
  case ixor => exact mn_bin (len := len) (x := x) (y := y) he
  case ishl => exact mn_bin (len := len) (x := x) (y := y) he
  case ishr => exact mn_bin (len := len) (x := x) (y := y) he
  case ladd => exact mn_binl (len := len) (x := x) (y := y) he
  case lmul => exact mn_binl (len := len) (x := x) (y := y) he
  case ldiv => exact mn_binl (len := len) (x := x) (y := y) he
  case land => exact mn_binl (len := len) (x := x) (y := y) he
  case lor => exact mn_binl (len := len) (x := x) (y := y) he
  case lshl => exact mn_shl (len := len) (x := x) (y := y) he
  case lshr => exact mn_shl (len := len) (x := x) (y := y) he
  case lushr => exact mn_shl (len := len) (x := x) (y := y) he
  case ineg => exact mn_un (len := len) (x := x) (y := y) he
  case lneg => exact mn_unl (len := len) (x := x) (y := y) he
  case lcmp => exact mn_lcmp (len := len) (x := x) (y := y) he
  case i2l => exact mn_i2l (len := len) (x := x) (y := y) he
  case l2i => exact mn_l2i (len := len) (x := x) (y := y) he
  case ifCond _ _ => exact mn_if (len := len) (x := x) (y := y) he
  case if_icmp _ _ => exact mn_icmp (len := len) (x := x) (y := y) he
  case getfield _ => exact mn_gf (len := len) (x := x) (y := y) he
  case putfield _ => exact mn_pf (len := len) (x := x) (y := y) he
  case iaload => exact mn_ald (len := len) (x := x) (y := y) (ok := fun k => k == 0) he
  case baload => exact mn_ald (len := len) (x := x) (y := y) (ok := fun k => k == 1) he
  case laload => exact mn_ald (len := len) (x := x) (y := y) (ok := fun k => k == 2) he
  case aaload => exact mn_ald (len := len) (x := x) (y := y) (ok := fun k => decide (3 ≤ k) && decide (k < 7)) he
  case iastore => exact mn_ast (len := len) (x := x) (y := y) he
  case bastore => exact mn_ast (len := len) (x := x) (y := y) he
  case lastore => exact mn_ast (len := len) (x := x) (y := y) he
  case aastore => exact mn_aast (len := len) (x := x) (y := y) he
  case arraylength => exact mn_len (len := len) (x := x) (y := y) he
  case dup => exact mn_dup (len := len) (x := x) (y := y) he
  case dup2 => exact mn_dup2 (len := len) (x := x) (y := y) he
  case pop => exact mn_pop (len := len) (x := x) (y := y) he
  case pop2 => exact mn_pop (len := len) (x := x) (y := y) he
  case newarray _ => exact mn_newa (len := len) (x := x) (y := y) he
  case anewarray _ => exact mn_newa (len := len) (x := x) (y := y) he
  case multianewarray _ _ => exact mn_mna (len := len) (x := x) (y := y) he
  case iconst _ => cases he; exact ⟨Nat.le_refl _, Nat.le_refl _⟩
  case bipush _ => cases he; exact ⟨Nat.le_refl _, Nat.le_refl _⟩
  case sipush _ => cases he; exact ⟨Nat.le_refl _, Nat.le_refl _⟩
  case lconst _ => cases he; exact ⟨Nat.le_refl _, Nat.le_refl _⟩
  case ldc _ => cases he; exact ⟨Nat.le_refl _, Nat.le_refl _⟩
  case ldc2_w _ => cases he; exact ⟨Nat.le_refl _, Nat.le_refl _⟩
  case goto _ => cases he; exact ⟨Nat.le_refl _, Nat.le_refl _⟩
  case new _ => cases he; exact ⟨Nat.le_succ _, Nat.le_add_right _ _⟩
  case tableswitch d lo hi offs =>
    obtain ⟨a, st2, -, q | ⟨-, o, -, q⟩⟩ := iv_sw (len := len) (x := x) (y := y) he
    · rw [q.2]; exact ⟨Nat.le_refl _, Nat.le_refl _⟩
    · rw [q]; exact ⟨Nat.le_refl _, Nat.le_refl _⟩
  case ireturn => obtain ⟨v, -, -, e2⟩ := iv_ret (len := len) (x := x) (y := y) he; rw [e2]; rfl
  case lreturn => obtain ⟨v, -, -, e2⟩ := iv_ret (len := len) (x := x) (y := y) he; rw [e2]; rfl
  case return_ => obtain ⟨-, e2⟩ := iv_retv (len := len) (x := x) (y := y) he; rw [e2]; rfl
  case invokevirtual _ =>
    rcases iv_inv (len := len) (x := x) (y := y) he with ⟨-, a, -, e2⟩ | ⟨-, e2⟩ | ⟨-, -, -, -, -, e2⟩
    · rw [e2]; exact ⟨Nat.le_refl _, Nat.le_refl _⟩
    · obtain ⟨_, _, _, _, _, -, -, e3⟩ := iv_acopy (len := len) (x := x) (y := y) e2
      rw [e3]; exact ⟨Nat.le_refl _, Nat.le_refl _⟩
    · rw [e2]; rfl
  case invokestatic _ =>
    rcases iv_inv (len := len) (x := x) (y := y) he with ⟨-, a, -, e2⟩ | ⟨-, e2⟩ | ⟨-, -, -, -, -, e2⟩
    · rw [e2]; exact ⟨Nat.le_refl _, Nat.le_refl _⟩
    · obtain ⟨_, _, _, _, _, -, -, e3⟩ := iv_acopy (len := len) (x := x) (y := y) e2
      rw [e3]; exact ⟨Nat.le_refl _, Nat.le_refl _⟩
    · rw [e2]; rfl
  case invokespecial _ =>
    rcases iv_inv (len := len) (x := x) (y := y) he with ⟨-, a, -, e2⟩ | ⟨-, e2⟩ | ⟨-, -, -, -, -, e2⟩
    · rw [e2]; exact ⟨Nat.le_refl _, Nat.le_refl _⟩
    · obtain ⟨_, _, _, _, _, -, -, e3⟩ := iv_acopy (len := len) (x := x) (y := y) e2
      rw [e3]; exact ⟨Nat.le_refl _, Nat.le_refl _⟩
    · rw [e2]; rfl
  all_goals cases he
theorem mn_1 {ft : am_ft} {C : am_C} {t : am_S} {r} (h : am_1 ft C t = some r) : ∃ row, am_row C t.1 = some row ∧ am_sem ft row.1 row.2.1 row.2.2.1 row.2.2.2 t = some r := by
  unfold am_1 at h
  split at h
  · rename_i row hrow
    exact ⟨row, hrow, h⟩
  · cases h
theorem mn_x {P : am_P} : ∀ (n : Nat) {C : am_C} {t : am_S} {r : Option am_V} {h2 : am_H}, am_x P n C t = some (r, h2) → t.2.2.2.1 ≤ h2.1 ∧ t.2.2.2.2.1 ≤ h2.2.1
  | 0, C, t, r, h2, h => by cases h
  | n + 1, C, t, r, h2, h => by
    obtain ⟨pc, ls, st, hp⟩ := t
    unfold am_x at h
    split at h
    · cases h
    · rename_i t2 e1
      obtain ⟨row, -, e2⟩ := mn_1 e1
      have m1 := mn_sem e2
      have m2 := mn_x n h
      exact ⟨Nat.le_trans m1.1 m2.1, Nat.le_trans m1.2 m2.2⟩
    · rename_i q e1
      obtain ⟨row, -, e2⟩ := mn_1 e1
      have m1 : q.2.2.2.2.2 = hp := mn_sem e2
      split at h
      · cases h
      · rename_i M hM
        split at h
        · split at h
          · cases h
          · rename_i r2 h3
            obtain ⟨r2, h4⟩ := r2
            have m2 := mn_x n h3
            have m3 := mn_x n h
            rw [m1] at m2
            exact ⟨Nat.le_trans m2.1 m3.1, Nat.le_trans m2.2 m3.2⟩
        · cases h
    · rename_i q e1
      obtain ⟨row, -, e2⟩ := mn_1 e1
      have m1 : q.2 = hp := mn_sem e2
      have := Option.some.inj h
      subst this
      have m1 : h2 = hp := m1
      subst m1
      exact ⟨Nat.le_refl _, Nat.le_refl _⟩
theorem kd_load {k i : Nat} {len x y pc : Nat} {ls st : List am_V} {h : am_H} {r} (e : am_load k i len x y (pc, ls, st, h) = some r) : ∃ t : am_S, r = .inl t := by
  obtain ⟨_, _, _, e2⟩ := iv_load e
  exact ⟨_, e2⟩
theorem kd_stor {k i : Nat} {len x y pc : Nat} {ls st : List am_V} {h : am_H} {r} (e : am_stor k i len x y (pc, ls, st, h) = some r) : ∃ t : am_S, r = .inl t := by
  obtain ⟨_, _, _, _, _, e2⟩ := iv_stor e
  exact ⟨_, e2⟩
theorem kd_storl {i : Nat} {len x y pc : Nat} {ls st : List am_V} {h : am_H} {r} (e : am_storl i len x y (pc, ls, st, h) = some r) : ∃ t : am_S, r = .inl t := by
  obtain ⟨_, _, _, _, e2⟩ := iv_storl e
  exact ⟨_, e2⟩
theorem kd_iinc {i : Nat} {n : Int} {len x y pc : Nat} {ls st : List am_V} {h : am_H} {r} (e : am_iinc i n len x y (pc, ls, st, h) = some r) : ∃ t : am_S, r = .inl t := by
  obtain ⟨_, _, e2⟩ := iv_iinc e
  exact ⟨_, e2⟩
theorem kd_bin {f : Int → Int → Option Int} {len x y pc : Nat} {ls st : List am_V} {h : am_H} {r} (e : am_bin f len x y (pc, ls, st, h) = some r) : ∃ t : am_S, r = .inl t := by
  obtain ⟨_, _, _, _, _, _, e2⟩ := iv_bin e
  exact ⟨_, e2⟩
theorem kd_binl {f : Int → Int → Option Int} {len x y pc : Nat} {ls st : List am_V} {h : am_H} {r} (e : am_binl f len x y (pc, ls, st, h) = some r) : ∃ t : am_S, r = .inl t := by
  obtain ⟨_, _, _, _, _, _, e2⟩ := iv_binl e
  exact ⟨_, e2⟩
theorem kd_shl {f : Int → Int → Option Int} {len x y pc : Nat} {ls st : List am_V} {h : am_H} {r} (e : am_shl f len x y (pc, ls, st, h) = some r) : ∃ t : am_S, r = .inl t := by
  obtain ⟨_, _, _, _, _, _, e2⟩ := iv_shl e
  exact ⟨_, e2⟩
theorem kd_un {f : Int → Int} {len x y pc : Nat} {ls st : List am_V} {h : am_H} {r} (e : am_un f len x y (pc, ls, st, h) = some r) : ∃ t : am_S, r = .inl t := by
  obtain ⟨_, _, _, e2⟩ := iv_un e
  exact ⟨_, e2⟩
theorem kd_unl {f : Int → Int} {len x y pc : Nat} {ls st : List am_V} {h : am_H} {r} (e : am_unl f len x y (pc, ls, st, h) = some r) : ∃ t : am_S, r = .inl t := by
  obtain ⟨_, _, _, e2⟩ := iv_unl e
  exact ⟨_, e2⟩
theorem kd_lcmp {len x y pc : Nat} {ls st : List am_V} {h : am_H} {r} (e : am_lcmp len x y (pc, ls, st, h) = some r) : ∃ t : am_S, r = .inl t := by
  obtain ⟨_, _, _, _, e2⟩ := iv_lcmp e
  exact ⟨_, e2⟩
theorem kd_i2l {len x y pc : Nat} {ls st : List am_V} {h : am_H} {r} (e : am_i2l len x y (pc, ls, st, h) = some r) : ∃ t : am_S, r = .inl t := by
  obtain ⟨_, _, _, e2⟩ := iv_i2l e
  exact ⟨_, e2⟩
theorem kd_l2i {len x y pc : Nat} {ls st : List am_V} {h : am_H} {r} (e : am_l2i len x y (pc, ls, st, h) = some r) : ∃ t : am_S, r = .inl t := by
  obtain ⟨_, _, _, e2⟩ := iv_l2i e
  exact ⟨_, e2⟩
theorem kd_if {cnd : Jvm.ClassFile.Cond} {len x y pc : Nat} {ls st : List am_V} {h : am_H} {r} (e : am_if cnd len x y (pc, ls, st, h) = some r) : ∃ t : am_S, r = .inl t := by
  obtain ⟨_, _, _, e2⟩ := iv_if e
  exact ⟨_, e2⟩
theorem kd_icmp {cnd : Jvm.ClassFile.Cond} {len x y pc : Nat} {ls st : List am_V} {h : am_H} {r} (e : am_icmp cnd len x y (pc, ls, st, h) = some r) : ∃ t : am_S, r = .inl t := by
  obtain ⟨_, _, _, _, e2⟩ := iv_icmp e
  exact ⟨_, e2⟩
theorem kd_gf {len x y pc : Nat} {ls st : List am_V} {h : am_H} {r} (e : am_gf len x y (pc, ls, st, h) = some r) : ∃ t : am_S, r = .inl t := by
  obtain ⟨_, _, _, _, e2⟩ := iv_gf e
  exact ⟨_, e2⟩
theorem kd_pf {ft : am_ft} {len x y pc : Nat} {ls st : List am_V} {h : am_H} {r} (e : am_pf ft len x y (pc, ls, st, h) = some r) : ∃ t : am_S, r = .inl t := by
  obtain ⟨_, _, _, _, _, e2⟩ := iv_pf e
  exact ⟨_, e2⟩
theorem kd_ald {ok : Nat → Bool} {len x y pc : Nat} {ls st : List am_V} {h : am_H} {r} (e : am_ald ok len x y (pc, ls, st, h) = some r) : ∃ t : am_S, r = .inl t := by
  obtain ⟨_, _, _, _, _, e2⟩ := iv_ald e
  exact ⟨_, e2⟩
theorem kd_ast {k vk : Nat} {len x y pc : Nat} {ls st : List am_V} {h : am_H} {r} (e : am_ast k vk len x y (pc, ls, st, h) = some r) : ∃ t : am_S, r = .inl t := by
  obtain ⟨_, _, _, _, _, _, e2⟩ := iv_ast e
  exact ⟨_, e2⟩
theorem kd_aast {len x y pc : Nat} {ls st : List am_V} {h : am_H} {r} (e : am_aast len x y (pc, ls, st, h) = some r) : ∃ t : am_S, r = .inl t := by
  obtain ⟨_, _, _, _, _, _, e2⟩ := iv_aast e
  exact ⟨_, e2⟩
theorem kd_len {len x y pc : Nat} {ls st : List am_V} {h : am_H} {r} (e : am_len len x y (pc, ls, st, h) = some r) : ∃ t : am_S, r = .inl t := by
  obtain ⟨_, _, _, _, e2⟩ := iv_len e
  exact ⟨_, e2⟩
theorem kd_dup {len x y pc : Nat} {ls st : List am_V} {h : am_H} {r} (e : am_dup len x y (pc, ls, st, h) = some r) : ∃ t : am_S, r = .inl t := by
  obtain ⟨_, _, _, _, e2⟩ := iv_dup e
  exact ⟨_, e2⟩
theorem kd_dup2 {len x y pc : Nat} {ls st : List am_V} {h : am_H} {r} (e : am_dup2 len x y (pc, ls, st, h) = some r) : ∃ t : am_S, r = .inl t := by
  obtain ⟨_, _, _, _, _, e2⟩ := iv_dup2 e
  exact ⟨_, e2⟩
theorem kd_pop {k : Nat} {len x y pc : Nat} {ls st : List am_V} {h : am_H} {r} (e : am_pop k len x y (pc, ls, st, h) = some r) : ∃ t : am_S, r = .inl t := by
  obtain ⟨_, _, _, _, e2⟩ := iv_pop e
  exact ⟨_, e2⟩
theorem kd_newa {lo hi : Nat} {len x y pc : Nat} {ls st : List am_V} {h : am_H} {r} (e : am_newa lo hi len x y (pc, ls, st, h) = some r) : ∃ t : am_S, r = .inl t := by
  obtain ⟨_, _, _, _, e2⟩ := iv_newa e
  exact ⟨_, e2⟩
theorem kd_mna {len x y pc : Nat} {ls st : List am_V} {h : am_H} {r} (e : am_mna len x y (pc, ls, st, h) = some r) : ∃ t : am_S, r = .inl t := by
  obtain ⟨_, _, _, _, _, e2⟩ := iv_mna e
  exact ⟨_, e2⟩
/-- a step goes on, calls or ends -/
theorem am_kind {ft : am_ft} {ins : Instr} {len x y pc : Nat} {ls st : List am_V} {h : am_H} {r} (he : am_sem ft ins len x y (pc, ls, st, h) = some r) : (∃ t : am_S, r = .inl t) ∨ (∃ i, (ins = .invokevirtual i ∨ ins = .invokestatic i ∨ ins = .invokespecial i) ∧ am_inv len x y (pc, ls, st, h) = some r) ∨ ((ins = .ireturn ∨ ins = .lreturn) ∧ am_ret len x y (pc, ls, st, h) = some r) ∨ (ins = .return_ ∧ am_retv len x y (pc, ls, st, h) = some r) := by
  cases ins
  case iload_n _ => exact Or.inl (kd_load (len := len) (x := x) (y := y) he)
  case iload _ => exact Or.inl (kd_load (len := len) (x := x) (y := y) he)
  case lload_n _ => exact Or.inl (kd_load (len := len) (x := x) (y := y) he)
  case lload _ => exact Or.inl (kd_load (len := len) (x := x) (y := y) he)
  case aload_n _ => exact Or.inl (kd_load (len := len) (x := x) (y := y) he)
  case aload _ => exact Or.inl (kd_load (len := len) (x := x) (y := y) he)
  case istore_n _ => exact Or.inl (kd_stor (len := len) (x := x) (y := y) he)
  case istore _ => exact Or.inl (kd_stor (len := len) (x := x) (y := y) he)
  case astore_n _ => exact Or.inl (kd_stor (len := len) (x := x) (y := y) he)
  case astore _ => exact Or.inl (kd_stor (len := len) (x := x) (y := y) he)
  case lstore_n _ => exact Or.inl (kd_storl (len := len) (x := x) (y := y) he)
  case lstore _ => exact Or.inl (kd_storl (len := len) (x := x) (y := y) he)
  case iinc _ _ => exact Or.inl (kd_iinc (len := len) (x := x) (y := y) he)
  case iadd => exact Or.inl (kd_bin (len := len) (x := x) (y := y) he)
  case isub => exact Or.inl (kd_bin (len := len) (x := x) (y := y) he)
  case imul => exact Or.inl (kd_bin (len := len) (x := x) (y := y) he)
  case idiv => exact Or.inl (kd_bin (len := len) (x := x) (y := y) he)
  case irem => exact Or.inl (kd_bin (len := len) (x := x) (y := y) he)
  case iand => exact Or.inl (kd_bin (len := len) (x := x) (y := y) he)
  case ixor => exact Or.inl (kd_bin (len := len) (x := x) (y := y) he)
  case ishl => exact Or.inl (kd_bin (len := len) (x := x) (y := y) he)
  case ishr => exact Or.inl (kd_bin (len := len) (x := x) (y := y) he)
  case ladd => exact Or.inl (kd_binl (len := len) (x := x) (y := y) he)
  case lmul => exact Or.inl (kd_binl (len := len) (x := x) (y := y) he)
  case ldiv => exact Or.inl (kd_binl (len := len) (x := x) (y := y) he)
  case land => exact Or.inl (kd_binl (len := len) (x := x) (y := y) he)
  case lor => exact Or.inl (kd_binl (len := len) (x := x) (y := y) he)
  case lshl => exact Or.inl (kd_shl (len := len) (x := x) (y := y) he)
  case lshr => exact Or.inl (kd_shl (len := len) (x := x) (y := y) he)
  case lushr => exact Or.inl (kd_shl (len := len) (x := x) (y := y) he)
  case ineg => exact Or.inl (kd_un (len := len) (x := x) (y := y) he)
  case lneg => exact Or.inl (kd_unl (len := len) (x := x) (y := y) he)
  case lcmp => exact Or.inl (kd_lcmp (len := len) (x := x) (y := y) he)
  case i2l => exact Or.inl (kd_i2l (len := len) (x := x) (y := y) he)
  case l2i => exact Or.inl (kd_l2i (len := len) (x := x) (y := y) he)
  case ifCond _ _ => exact Or.inl (kd_if (len := len) (x := x) (y := y) he)
  case if_icmp _ _ => exact Or.inl (kd_icmp (len := len) (x := x) (y := y) he)
  case getfield _ => exact Or.inl (kd_gf (len := len) (x := x) (y := y) he)
  case putfield _ => exact Or.inl (kd_pf (len := len) (x := x) (y := y) he)
  case iaload => exact Or.inl (kd_ald (len := len) (x := x) (y := y) (ok := fun k => k == 0) he)
  case baload => exact Or.inl (kd_ald (len := len) (x := x) (y := y) (ok := fun k => k == 1) he)
  case laload => exact Or.inl (kd_ald (len := len) (x := x) (y := y) (ok := fun k => k == 2) he)
  case aaload => exact Or.inl (kd_ald (len := len) (x := x) (y := y) (ok := fun k => decide (3 ≤ k) && decide (k < 7)) he)
  case iastore => exact Or.inl (kd_ast (len := len) (x := x) (y := y) he)
  case bastore => exact Or.inl (kd_ast (len := len) (x := x) (y := y) he)
  case lastore => exact Or.inl (kd_ast (len := len) (x := x) (y := y) he)
  case aastore => exact Or.inl (kd_aast (len := len) (x := x) (y := y) he)
  case arraylength => exact Or.inl (kd_len (len := len) (x := x) (y := y) he)
  case dup => exact Or.inl (kd_dup (len := len) (x := x) (y := y) he)
  case dup2 => exact Or.inl (kd_dup2 (len := len) (x := x) (y := y) he)
  case pop => exact Or.inl (kd_pop (len := len) (x := x) (y := y) he)
  case pop2 => exact Or.inl (kd_pop (len := len) (x := x) (y := y) he)
  case newarray _ => exact Or.inl (kd_newa (len := len) (x := x) (y := y) he)
  case anewarray _ => exact Or.inl (kd_newa (len := len) (x := x) (y := y) he)
  case multianewarray _ _ => exact Or.inl (kd_mna (len := len) (x := x) (y := y) he)
  case iconst _ => cases he; exact Or.inl ⟨_, rfl⟩
  case bipush _ => cases he; exact Or.inl ⟨_, rfl⟩
  case sipush _ => cases he; exact Or.inl ⟨_, rfl⟩
  case lconst _ => cases he; exact Or.inl ⟨_, rfl⟩
  case ldc _ => cases he; exact Or.inl ⟨_, rfl⟩
  case ldc2_w _ => cases he; exact Or.inl ⟨_, rfl⟩
  case goto _ => cases he; exact Or.inl ⟨_, rfl⟩
  case new _ => cases he; exact Or.inl ⟨_, rfl⟩
  case tableswitch d lo hi offs =>
    obtain ⟨a, st2, -, q | ⟨-, o, -, q⟩⟩ := iv_sw (len := len) (x := x) (y := y) he
    · exact Or.inl ⟨_, q.2⟩
    · exact Or.inl ⟨_, q⟩
  case invokevirtual i => exact Or.inr (Or.inl ⟨i, Or.inl rfl, he⟩)
  case invokestatic i => exact Or.inr (Or.inl ⟨i, Or.inr (Or.inl rfl), he⟩)
  case invokespecial i => exact Or.inr (Or.inl ⟨i, Or.inr (Or.inr rfl), he⟩)
  case ireturn => exact Or.inr (Or.inr (Or.inl ⟨Or.inl rfl, he⟩))
  case lreturn => exact Or.inr (Or.inr (Or.inl ⟨Or.inr rfl, he⟩))
  case return_ => exact Or.inr (Or.inr (Or.inr ⟨rfl, he⟩))
  all_goals cases he
end
section
/-! Calls and returns. -/
/-- a method's start and end, over the small machine's cells -/
def am_Pc (D : va_G) (ca : Nat → ClassId) (KK : State → Prop) (ad : Nat → Nat) (as : List am_V) (h : am_H) (sz : Nat) : Array Value → State → Prop := va_Pc (as.map (am_cv ad)) (fun U => U.heap.size = sz ∧ va_P D vwCl (am_ws ad ca h) U.heap ∧ KK U ∧ va_D (fun _ => True) (am_ws ad ca h))
def am_Qc (D : va_G) (ca : Nat → ClassId) (ft : am_ft) (ad : Nat → Nat) (h : am_H) (r : Option am_V) (h2 : am_H) (sz : Nat) : Array Value → State → Outcome → State → Prop := fun _ st oc t =>
  (∃ ad2 : Nat → Nat, (∀ k, k < h.1 → ad2 k = ad k) ∧ oc = .returned (r.map (am_cv ad2)) ∧ am_gd ft h2 ∧ (∀ v, r = some v → am_vk h2.1 v) ∧ h.1 ≤ h2.1 ∧ h.2.1 ≤ h2.2.1 ∧ va_P D vwCl (am_ws ad2 ca h2) t.heap ∧ va_D (va_A (am_ws ad ca h) sz) (am_ws ad2 ca h2)) ∧ va_F (va_A (am_ws ad ca h) sz) st t
/-- what the tables say of the claim's classes, and goes with every state -/
def am_KK (D : va_G) (ca : Nat → ClassId) (U : State) : Prop := va_K D vwCl (am_tys ca) U ∧ va_Nw (.methodLinkNest "StrandBoxes" 27 yX3_init "StrandBoxes") U ∧ va_Nw (.methodLinkNest "StrandBoxes" 34 yX1_init "StrandBoxes") U ∧ am_AO U
theorem am_KK.warm {D : va_G} {ca : Nat → ClassId} {s U : State} (hW : s.WarmedH U.vm) (h : am_KK D ca s) : am_KK D ca U := ⟨va_K.moved hW.alike h.1, va_Nw.warmM hW h.2.1, va_Nw.warmM hW h.2.2.1, h.2.2.2.warm hW⟩
theorem am_KK.call {D : va_G} {ca : Nat → ClassId} {U : State} {g : JFrame} {mk : MethodId} {a : Array Value} (h : am_KK D ca U) : am_KK D ca (U.calling g mk a) := ⟨va_K.moved (u := U) (U := U.calling g mk a) (Vm.Alike.refl U.vm) h.1, va_Nw.same (u := U) (U := U.calling g mk a) rfl rfl h.2.1, va_Nw.same (u := U) (U := U.calling g mk a) rfl rfl h.2.2.1, h.2.2.2.same (u := U) (U := U.calling g mk a) rfl⟩
theorem am_Pc.blind {D : va_G} {ca : Nat → ClassId} {ad : Nat → Nat} {as : List am_V} {h : am_H} {sz : Nat} : FrameBlind (am_Pc D ca (am_KK D ca) ad as h sz) := fun a U g mk q => by
  obtain ⟨q0, q1, qP, qK, qD⟩ := q
  exact ⟨q0, q1, qP, qK.call, qD⟩
theorem am_Pc.at {D : va_G} {ca : Nat → ClassId} {ad : Nat → Nat} {as : List am_V} {h : am_H} {s : State} {H : Heap} {A : Nat → Prop} (hK : am_KK D ca s) (hP : va_P D vwCl (am_ws ad ca h) H) (hD : va_D A (am_ws ad ca h)) : ∀ U : State, U.heap = H → s.WarmedH U.vm → am_Pc D ca (am_KK D ca) ad as h H.size (as.map (am_cv ad)).toArray U := fun U hU hW => ⟨rfl, by rw [hU], by rw [hU]; exact hP, hK.warm hW, hD.weaken (fun _ _ _ _ => trivial)⟩
theorem am_cat_cv {ad : Nat → Nat} (v : am_V) : (am_cv ad v).category = am_cat v := by
  rcases v with (x | x) | _ | _ | a <;> rfl
theorem am_cat_sum {ad : Nat → Nat} (st : List am_V) : ((st.map (am_cv ad)).map fun v => v.category).sum = (st.map am_cat).sum := by
  rw [List.map_map]
  congr 1
  exact List.map_congr_left fun v _ => am_cat_cv v
section SM
variable {p : Program} {l : Launch} {e : Env} {R : Room} {s : State} {m : MethodId} {args : Array Value} {below : List Frame} {meth : Method} {c : Code} {Q : State → Prop} {D : va_G} {ca : Nat → ClassId} {ft : am_ft} {A : Nat → Prop} {n0 z0 : Nat} {ad0 : Nat → Nat} {nL : Nat} {cc : ByteArray}
/-- behind a call: as = its arguments, rest = what lies below them -/
theorem sm_back {pc : Nat} {ls as rest : List am_V} {h h2 : am_H} {r : Option am_V} {a : Array Value} {mc ms : Nat} (hA : ∀ q, s.heap.size ≤ q → A q) (hmc : mc = h2.1 - h.1) (hms : ms = h2.2.1 - h.2.1)
    (hrun : ∀ (ad : Nat → Nat) (H : Heap) (locs : List Loc) (LS : Array Slot), n0 ≤ h.1 → z0 ≤ h.2.1 → am_gd ft h → (∀ v ∈ as.reverse ++ rest, am_vk h.1 v) → va_P D vwCl (am_ws ad ca h) H → va_D A (am_ws ad ca h) → LS.size = nL →
      va_Run p l e R s m args below meth c H locs (h.1 - n0) (h.2.1 - z0) mc ms (F0 m pc LS ((as.reverse ++ rest).map (am_cv ad))) (rest.map (am_cv ad)) (am_Qc D ca ft ad h r h2 H.size ((as.map (am_cv ad)).toArray)) (va_A (am_ws ad ca h) H.size))
    (k : am_G p l e R s m args below meth c Q D ca ft A n0 z0 ad0 nL (pc + 3, ls, r.toList ++ rest, h2)) : am_G p l e R s m args below meth c Q D ca ft A n0 z0 ad0 nL (pc, ls, as.reverse ++ rest, h) := by
  intro ad H locs LS h1 h2_ h3 h4 h5 h6 h7 h8 h9 h10 h11
  have h2_ : n0 ≤ h.1 := h2_
  have h3 : z0 ≤ h.2.1 := h3
  have h6 : ∀ v ∈ ls, v = vU ∨ am_vk h.1 v := h6
  have hs5 : ∀ w ∈ rest, am_vk h.1 w := fun w hw => h5 w (List.mem_append_right _ hw)
  have hfree : ∀ q, va_A (am_ws ad ca h) H.size q → A q := fun q hq => by
    rcases hq with ⟨j, e9, hj⟩ | hq
    · exact h8.2 j _ hj
    · exact hA q (Nat.le_trans h9.1 hq)
  intro T hT X
  obtain ⟨v, st₀, t, T', L, g0, X', hL, e1, e2, ⟨⟨ad2, q1, q2, q3, q4, q5, q6, qP, qD⟩, qz, qk⟩, st⟩ := hrun ad H locs LS h2_ h3 h4 h5 h7 h8 (h10.1.trans h11) T hT X
  have q2 : v = r.map (am_cv ad2) := Outcome.returned.inj q2
  rw [g0] at qz qk
  rw [← e1] at qP qz qk
  have hS' : va_S A s.heap T'.heap (locs ++ L) := ⟨Nat.le_trans h9.1 qz, fun q j1 j2 => by
      rw [qk q (Nat.lt_of_lt_of_le j1 h9.1) (fun z => j2 (hfree q z))]
      exact h9.2.1 q j1 j2, fun q hq => (List.mem_append.mp hq).elim (h9.2.2 q) (fun z => hfree _ (hL q z))⟩
  have K := k ad2 T'.heap (locs ++ L) LS (fun j hj => (q1 j (by omega)).trans (h1 j hj)) (show n0 ≤ h2.1 by omega) (show z0 ≤ h2.2.1 by omega) q3
    (fun w hw => (List.mem_append.mp hw).elim (fun z => q4 w (Option.mem_toList.mp z)) (fun z => (hs5 w z).mono q5))
    (fun w hw => (h6 w hw).elim Or.inl (fun z => Or.inr (z.mono q5))) qP (qD.weaken (fun _ q _ z => hfree q.1 z)) hS' (h10.cg q1 h6) h11
  have e3 : (r.toList ++ rest).map (am_cv ad2) = v.toList ++ rest.map (am_cv ad) := by
    rw [List.map_append, am_st_cg q1 hs5, q2]
    congr 1
    cases r <;> rfl
  rw [e3] at K
  have K2 := W.cs (show h.1 - n0 + mc = h2.1 - n0 by omega) (show h.2.1 - z0 + ms = h2.2.1 - z0 by omega) K
  obtain ⟨t2, a1, b1⟩ := K2 T' rfl X'
  exact ⟨t2, st t2 a1, b1⟩
/-- the end of a method -/
theorem sm_ret {pc x len : Nat} {ins : Instr} {ls : List am_V} {h0 h : am_H} {v : am_V} {ret : Option FieldType} {sz : Nat} (hx : p.tables.exec = Jvm.exec) (hb : c.code = cc) (hr : meth.sig.returnType = ret) (hlocks : meth.locks = false) (hdg : decode cc pc = .ok (ins, 1)) (hsz : s.heap.size = sz)
    (hrt : (ins = .ireturn ∧ x = 0 ∧ ret = some .int) ∨ (ins = .ireturn ∧ x = 1 ∧ ret = some .boolean) ∨ (ins = .lreturn ∧ x = 2 ∧ ret = some .long)) (hv : am_fok x v = true) :
    am_G p l e R s m args below meth c (MQ below (am_Qc D ca ft ad0 h0 (some v) h sz) args s (h.1 - h0.1) (h.2.1 - h0.2.1) (va_A (am_ws ad0 ca h0) sz)) D ca ft (va_A (am_ws ad0 ca h0) sz) h0.1 h0.2.1 ad0 nL (pc, ls, [v], h) := by
  intro ad H locs LS h1 h2 h3 h4 h5 h6 h7 h8 h9 h10 h11
  have h4 : am_gd ft h := h4
  have hvk : am_vk h.1 v := h5 v (by simp)
  have fin : ∀ (t : State) (z : Value), z = am_cv ad v → t.heap = H → am_Qc D ca ft ad0 h0 (some v) h sz args s (.returned (some z)) t := fun t z hz ht => ⟨⟨ad, h1, by rw [hz]; rfl, h4, fun w hw => by cases hw; exact hvk, h2, h3, by rw [ht]; exact h7, h8⟩, h9.F ht⟩
  rcases hrt with ⟨rfl, rfl, rfl⟩ | ⟨rfl, rfl, rfl⟩ | ⟨rfl, rfl, rfl⟩
  · have e9 := am_cv_iald (ad := ad) ⟨hvk, hv⟩
    show W p l e R s m args below meth c H locs _ _ _ (F0 m pc LS [am_cv ad v])
    rw [e9]
    exact W.iret hx hb hr (fun t ht hW => fin t _ e9.symm ht) h9.2.2 hdg hlocks
  · have e9 := am_cv_zald (ad := ad) ⟨hvk, hv⟩
    have e8 := (am_fit (ad := ad) (ty := .boolean) hvk hv rfl).1
    rw [e9] at e8
    show W p l e R s m args below meth c H locs _ _ _ (F0 m pc LS [am_cv ad v])
    rw [e9]
    exact W.zret hx hb hr e8 (fun t ht hW => fin t _ e9.symm ht) h9.2.2 hdg hlocks
  · have e9 := am_cv_lald (ad := ad) ⟨hvk, hv⟩
    show W p l e R s m args below meth c H locs _ _ _ (F0 m pc LS [am_cv ad v])
    rw [e9]
    exact W.lret hx hb hr (fun t ht hW => fin t _ e9.symm ht) h9.2.2 hdg hlocks
theorem sm_retv {pc : Nat} {ls : List am_V} {h0 h : am_H} {sz : Nat} (hx : p.tables.exec = Jvm.exec) (hb : c.code = cc) (hr : meth.sig.returnType = none) (hlocks : meth.locks = false) (hdg : decode cc pc = .ok (.return_, 1)) (hsz : s.heap.size = sz) :
    am_G p l e R s m args below meth c (MQ below (am_Qc D ca ft ad0 h0 none h sz) args s (h.1 - h0.1) (h.2.1 - h0.2.1) (va_A (am_ws ad0 ca h0) sz)) D ca ft (va_A (am_ws ad0 ca h0) sz) h0.1 h0.2.1 ad0 nL (pc, ls, [], h) := by
  intro ad H locs LS h1 h2 h3 h4 h5 h6 h7 h8 h9 h10 h11
  have h4 : am_gd ft h := h4
  exact W.vret hx hb hr (fun t ht hW => ⟨⟨ad, h1, rfl, h4, fun w hw => by (cases hw), h2, h3, by rw [ht]; exact h7, h8⟩, h9.F ht⟩) h9.2.2 hdg hlocks
end SM
end
section
/-! A run of the small machine is a run of the machine. -/
theorem am_pad_len : ∀ (n : Nat) (as : List am_V), (am_pad n as).length = n
  | 0, _ => rfl
  | n + 1, [] => congrArg Nat.succ (am_pad_len n [])
  | n + 1, .inl (.inl x) :: l => congrArg Nat.succ (am_pad_len n l)
  | n + 1, .inr x :: l => congrArg Nat.succ (am_pad_len n l)
  | 1, .inl (.inr x) :: l => rfl
  | n + 2, .inl (.inr x) :: l => congrArg (fun z => Nat.succ (Nat.succ z)) (am_pad_len n l)
theorem am_pad_nil : ∀ (n i : Nat) (v : am_V), (am_pad n [])[i]? = some v → v = vU
  | 0, i, v, h => by simp [am_pad] at h
  | n + 1, 0, v, h => by
    have : some vU = some v := h
    exact (Option.some.inj this).symm
  | n + 1, i + 1, v, h => am_pad_nil n i v h
theorem am_pad_at {ad : Nat → Nat} : ∀ (n : Nat) (as : List am_V) (i0 i : Nat) (v : am_V), (am_pad n as)[i]? = some v → v ≠ vU → (i0 + i, am_cv ad v) ∈ lv_args i0 (as.map (am_cv ad))
  | 0, as, i0, i, v, h, hv => by simp [am_pad] at h
  | n + 1, [], i0, i, v, h, hv => absurd (am_pad_nil (n + 1) i v h) hv
  | n + 1, .inl (.inl x) :: l, i0, 0, v, h, hv => by
    have : some (vI x) = some v := h
    cases this
    exact List.mem_cons_self
  | n + 1, .inr x :: l, i0, 0, v, h, hv => by
    have : some (Sum.inr x : am_V) = some v := h
    cases this
    exact List.mem_cons_self
  | n + 1, .inl (.inl x) :: l, i0, i + 1, v, h, hv => by
    have := am_pad_at (ad := ad) n l (i0 + 1) i v h hv
    rw [show i0 + (i + 1) = i0 + 1 + i by omega]
    exact List.mem_cons_of_mem _ this
  | n + 1, .inr x :: l, i0, i + 1, v, h, hv => by
    have := am_pad_at (ad := ad) n l (i0 + 1) i v h hv
    rw [show i0 + (i + 1) = i0 + 1 + i by omega]
    refine List.mem_cons_of_mem _ ?_
    rcases x with _ | _ | k <;> exact this
  | 1, .inl (.inr x) :: l, i0, 0, v, h, hv => by
    have : some (vL x) = some v := h
    cases this
    exact List.mem_cons_self
  | 1, .inl (.inr x) :: l, i0, i + 1, v, h, hv => by
    have : ([] : List am_V)[i]? = some v := h
    simp at this
  | n + 2, .inl (.inr x) :: l, i0, 0, v, h, hv => by
    have : some (vL x) = some v := h
    cases this
    exact List.mem_cons_self
  | n + 2, .inl (.inr x) :: l, i0, 1, v, h, hv => by
    have : some vU = some v := h
    exact absurd (Option.some.inj this).symm hv
  | n + 2, .inl (.inr x) :: l, i0, i + 2, v, h, hv => by
    have := am_pad_at (ad := ad) n l (i0 + 2) i v h hv
    rw [show i0 + (i + 2) = i0 + 2 + i by omega]
    exact List.mem_cons_of_mem _ this
theorem am_pad_mem : ∀ (n : Nat) (as : List am_V) (v : am_V), v ∈ am_pad n as → v = vU ∨ v ∈ as
  | 0, as, v, h => by simp [am_pad] at h
  | n + 1, [], v, h => by
    obtain ⟨i, hi⟩ := List.getElem?_of_mem h
    exact Or.inl (am_pad_nil (n + 1) i v hi)
  | n + 1, .inl (.inl x) :: l, v, h => by
    have h : v ∈ vI x :: am_pad n l := h
    rcases List.mem_cons.mp h with rfl | h
    · exact Or.inr List.mem_cons_self
    · exact (am_pad_mem n l v h).imp id (List.mem_cons_of_mem _)
  | n + 1, .inr x :: l, v, h => by
    have h : v ∈ (.inr x : am_V) :: am_pad n l := h
    rcases List.mem_cons.mp h with rfl | h
    · exact Or.inr List.mem_cons_self
    · exact (am_pad_mem n l v h).imp id (List.mem_cons_of_mem _)
  | 1, .inl (.inr x) :: l, v, h => by
    have h : v ∈ [vL x] := h
    exact Or.inr (by rw [List.mem_singleton.mp h]; exact List.mem_cons_self)
  | n + 2, .inl (.inr x) :: l, v, h => by
    have h : v ∈ vL x :: vU :: am_pad n l := h
    rcases List.mem_cons.mp h with rfl | h
    · exact Or.inr List.mem_cons_self
    · rcases List.mem_cons.mp h with rfl | h
      · exact Or.inl rfl
      · exact (am_pad_mem n l v h).imp id (List.mem_cons_of_mem _)
theorem am_sl_len {ad : Nat → Nat} : ∀ as : List am_V, (lg_sl (as.map (am_cv ad))).length = (as.map am_cat).sum
  | [] => rfl
  | v :: l => by
    have ih := am_sl_len (ad := ad) l
    show (lg_sl (am_cv ad v :: l.map (am_cv ad))).length = am_cat v + (l.map am_cat).sum
    unfold lg_sl at ih ⊢
    rw [List.flatMap_cons, List.length_append, ih]
    congr 1
    rcases v with (x | x) | _ | _ | a <;> rfl
/-- Met.ofW, for a method that no entry runs instead -/
theorem am_ofW {l : Launch} {y : MethodName} {ws ws' : List Cond} {rm : Room} {Pc : Array Value → State → Prop} {Qc : Array Value → State → Outcome → State → Prop} {mc ms : Nat} {free : Addr → Prop} {cc : ByteArray} {maxL : Nat} {ret : Option FieldType}
    (hy : plainFor y = true) (hw : ws = Cond.code y cc maxL ret :: ws')
    (body : ∀ p e s m args below meth c s₁, BodyLoose p l y (headSpec ws rm) cc maxL ret e s m args below meth c s₁ → c.maxLocals = maxL → Pc args s →
      W p l e (headSpec ws rm).room s m args below meth c s.heap [] 0 0 (MQ below Qc args s mc ms free) (entryFrame m args maxL)) : Met l y ws rm Pc Qc mc ms free := by
  refine MetFree.of_bodySF (code := cc) (maxLocals := maxL) (ret := ret) hy ?_ ?_
  · intro args s m h hn
    obtain ⟨meth, c, h1, h2, h3, h4, h5, h6, -, -⟩ := Cond.code_spec hn (atoms_spec (ws := ws) h _ (by rw [hw]; exact List.mem_cons_self))
    exact ⟨meth, c, h1, h2, h3, h4, h5, h6⟩
  · intro p e s m args below meth c s₁ B hml hP _
    have hh0 : s₁.heap = s.heap := by rw [B.state]; rfl
    obtain ⟨t, a1, o, b1, b2, b3⟩ := body p e s m args below meth c s₁ B hml hP s₁ hh0 (Stand.of_body B)
    exact ⟨t, o, a1, b1, b2, ⟨b3.1, b3.2⟩⟩
/-- a method: its name, its bytes, what it returns, its frames and locals -/
abbrev am_N : Type := MethodName × ByteArray × Option FieldType × Nat × Nat
def am_cb (Tb : List Cond) (fr lo : Nat) (mL : Nat) (N : am_N) (n : Nat) : Prop := Cond.code N.1 N.2.1 mL N.2.2.1 ∈ Tb ∧ Cond.initialized N.1.cls ∈ Tb ∧ (N.1.cls ≠ "java/lang/invoke/MethodHandle" ∧ N.1.cls ≠ "java/lang/invoke/VarHandle" ∧ (parseMethodDescriptor N.1.desc).map (fun d => d.parameters.length) = some n) ∧ N.2.2.2.1 + 1 ≤ fr ∧ 8 + (mL + 11) + N.2.2.2.2 ≤ lo
/-- what a call needs of the tables -/
def am_ck (P : am_P) (Ns : List am_N) (Tb : List Cond) (own : String) (fr lo : Nat) (row : am_I) : Prop := match row with
  | (.invokevirtual i, _, x, y) => ∃ (C : am_C) (mL : Nat) (N : am_N) (n : Nat), P.2[x % 1000]? = some (C, mL) ∧ Ns[x % 1000]? = some N ∧ am_cb Tb fr lo mL N n ∧ n + 1 = y ∧ 1000 ≤ x ∧ (∃ (T : u_T) (z : Nat), vwCl[x / 1000 - 1]? = some (N.1.cls, T, z)) ∧ Cond.methodLink own i N.1 ∈ Tb ∧ Cond.instanceMethod N.1 ∈ Tb ∧ Cond.selects N.1.cls N.1 N.1 ∈ Tb
  | (.invokestatic i, _, x, y) => x = 901 ∨ ∃ (C : am_C) (mL : Nat) (N : am_N) (n : Nat), P.2[x % 1000]? = some (C, mL) ∧ Ns[x % 1000]? = some N ∧ am_cb Tb fr lo mL N n ∧ n = y ∧ Cond.methodLink own i N.1 ∈ Tb ∧ Cond.static N.1 ∈ Tb
  | (.invokespecial i, _, x, y) => x = 900 ∨ ∃ (C : am_C) (mL : Nat) (N : am_N) (n : Nat), P.2[x % 1000]? = some (C, mL) ∧ Ns[x % 1000]? = some N ∧ am_cb Tb fr lo mL N n ∧ n + 1 = y ∧ 1000 ≤ x ∧ N.2.2.1 = none ∧ N.1.name = "<init>" ∧ Cond.instanceMethod N.1 ∈ Tb ∧ (Cond.methodLink own i N.1 ∈ Tb ∨ (own = "StrandBoxes" ∧ ((i = 27 ∧ N.1 = yX3_init) ∨ (i = 34 ∧ N.1 = yX1_init))))
  | _ => True
/-- what a return needs -/
def am_rt (ret : Option FieldType) (row : am_I) : Prop := match row with
  | (.ireturn, _, x, _) => (x = 0 ∧ ret = some .int) ∨ (x = 1 ∧ ret = some .boolean)
  | (.lreturn, _, x, _) => x = 2 ∧ ret = some .long
  | (.return_, _, _, _) => ret = none
  | _ => True
/-- the code tables are the bytes', the tables have what they need -/
def am_Ok (P : am_P) (Ns : List am_N) (Tb : List Cond) : Prop := (∀ w ∈ Tb, (w.onTables && w.keeps) = true ∨ ∃ ty, w = .arrayClass ty) ∧
  ∀ (j : Nat) (C : am_C) (mL : Nat) (N : am_N), P.2[j]? = some (C, mL) → Ns[j]? = some N → plainFor N.1 = true ∧ ∀ (pc : Nat) (row : am_I), am_row C pc = some row → decode N.2.1 pc = .ok (row.1, row.2.1) ∧ (∀ mc ms : Nat, am_rk P.1 N.1.cls (N.1.name = "<init>") Tb { frames := N.2.2.2.1, cells := mc, slots := ms, locals := N.2.2.2.2 } pc row) ∧ am_ck P Ns Tb N.1.cls N.2.2.2.1 N.2.2.2.2 row ∧ am_rt N.2.2.1 row
/-- from any state of a method, by a run of at most n steps -/
def am_GS (P : am_P) (Ns : List am_N) (Tb : List Cond) (l : Launch) (D : va_G) (ca : Nat → ClassId) (n : Nat) : Prop :=
  ∀ (j : Nat) (C : am_C) (mL : Nat) (y : MethodName) (bytes : ByteArray) (ret : Option FieldType) (fr lo : Nat), P.2[j]? = some (C, mL) → Ns[j]? = some (y, bytes, ret, fr, lo) →
  ∀ (p : Program) (e : Env) (s : State) (m : MethodId) (args : Array Value) (below : List Frame) (meth : Method) (c : Code), p.tables.exec = Jvm.exec → c.code = bytes → c.maxLocals = mL → s.vm.findClass y.cls = some m.cls → (∀ w ∈ Tb, w.before args s = true) → am_KK D ca s → meth.sig.returnType = ret → meth.locks = false → meth.name = y.name →
  ∀ (ad0 : Nat → Nat) (h0 h2 : am_H) (r : Option am_V) (t : am_S), am_x P n C t = some (r, h2) → h0.1 ≤ t.2.2.2.1 → h0.2.1 ≤ t.2.2.2.2.1 → am_G p l e ({ frames := fr, cells := h2.1 - h0.1, slots := h2.2.1 - h0.2.1, locals := lo } : Room) s m args below meth c (MQ below (am_Qc D ca P.1 ad0 h0 r h2 s.heap.size) args s (h2.1 - h0.1) (h2.2.1 - h0.2.1) (va_A (am_ws ad0 ca h0) s.heap.size)) D ca P.1 (va_A (am_ws ad0 ca h0) s.heap.size) h0.1 h0.2.1 ad0 mL t
/-- a method's contract, by a run of at most n steps -/
def am_SS (P : am_P) (Ns : List am_N) (Tb : List Cond) (l : Launch) (D : va_G) (ca : Nat → ClassId) (n : Nat) : Prop :=
  ∀ (j : Nat) (C : am_C) (mL : Nat) (N : am_N), P.2[j]? = some (C, mL) → Ns[j]? = some N → ∀ (as : List am_V) (h0 h2 : am_H) (r : Option am_V), am_x P n C (0, am_pad mL as, [], h0) = some (r, h2) → am_gd P.1 h0 → (∀ v ∈ as, am_vk h0.1 v) → (as.map am_cat).sum ≤ mL → ∀ (ad : Nat → Nat) (sz : Nat),
    Met l N.1 (Cond.code N.1 N.2.1 mL N.2.2.1 :: Tb) { frames := N.2.2.2.1, cells := h2.1 - h0.1, slots := h2.2.1 - h0.2.1, locals := N.2.2.2.2 } (am_Pc D ca (am_KK D ca) ad as h0 sz) (am_Qc D ca P.1 ad h0 r h2 sz) (h2.1 - h0.1) (h2.2.1 - h0.2.1) (va_A (am_ws ad ca h0) sz)
theorem am_SS_of {P : am_P} {Ns : List am_N} {Tb : List Cond} {l : Launch} {D : va_G} {ca : Nat → ClassId} {n : Nat} (ok : am_Ok P Ns Tb) (hG : am_GS P Ns Tb l D ca n) : am_SS P Ns Tb l D ca n := by
  intro j C mL N hj hN as h0 h2 r hx0 hg hv hcat ad sz
  obtain ⟨y, bytes, ret, fr, lo⟩ := N
  refine am_ofW (cc := bytes) (maxL := mL) (ret := ret) (ok.2 j C mL _ hj hN).1 rfl ?_
  intro p e s m args below meth c s₁ B hml hv0
  obtain ⟨rfl, hsz, hP, hK, hD0⟩ := hv0
  have hts := atoms_spec (ws := Cond.code y bytes mL ret :: Tb) B.pre
  subst hsz
  have hl := lv_entry (as.map (am_cv ad)) (n := mL) (by rw [am_sl_len]; exact hcat)
  rw [lg_entry_eq]
  generalize (lg_sl (as.map (am_cv ad)) ++ List.replicate (mL - (lg_sl (as.map (am_cv ad))).length) Slot.unset).toArray = LS at hl ⊢
  have K := hG j C mL y bytes ret fr lo hj hN p e s m _ below meth c B.exec B.bytes hml (findClass_of_methodNamed B.named) (fun w hw => hts w (List.mem_cons_of_mem _ hw)) hK B.returns B.notSynchronized (name_of_methodNamed B.named B.method).1 ad h0 h2 r (0, am_pad mL as, [], h0) hx0 (Nat.le_refl _) (Nat.le_refl _)
  have K2 := K ad s.heap [] LS (fun _ _ => rfl) (Nat.le_refl _) (Nat.le_refl _) hg (fun v hv => by simp at hv) (fun v hv9 => (am_pad_mem mL as v hv9).imp id (hv v)) hP hD0.self va_S.rf ?_ (am_pad_len mL as)
  · exact W.cs (show 0 = h0.1 - h0.1 by omega) (show 0 = h0.2.1 - h0.2.1 by omega) K2
  · refine ⟨by rw [am_pad_len]; exact hl.1, hl.2.1, fun q hq => hl.2.2 q ?_⟩
    obtain ⟨v, q1, q2, q3⟩ := am_lvl_mem.mp hq
    have := am_pad_at (ad := ad) mL as 0 q.1 v q1 q2
    rw [Nat.zero_add, ← q3] at this
    exact this
end
section
/-! The run, step by step. -/
theorem am_cw {R : Room} {s : State} {args : Array Value} {Tb : List Cond} {own : String} {i mL n mc ms fr lo : Nat} {N : am_N} (hg : ∀ w ∈ Tb, (w.onTables && w.keeps) = true ∨ ∃ ty, w = .arrayClass ty) (hts : ∀ w ∈ Tb, w.before args s = true) (hR1 : R.frames = fr) (hR2 : R.locals = lo) (h : am_cb Tb fr lo mL N n) (hl : (Cond.methodLink own i N.1).before args s = true) :
    CallB R s args own i N.1 N.2.1 mL N.2.2.1 (Cond.code N.1 N.2.1 mL N.2.2.1 :: Tb) { frames := N.2.2.2.1, cells := mc, slots := ms, locals := N.2.2.2.2 } mc ms n := by
  obtain ⟨h1, h2, h3, h4, h5⟩ := h
  exact callB_of n hts (fun w hw => (List.mem_cons.mp hw).elim (fun q => by rw [q]; exact ⟨h1, hg _ h1⟩) (fun q => ⟨q, hg w q⟩)) rfl rfl rfl (hts _ h2) hl h3 ⟨by rw [hR1]; exact h4, by rw [hR2]; exact h5⟩
theorem am_cn {R : Room} {s : State} {args : Array Value} {Tb : List Cond} {own host : String} {i mL n mc ms fr lo : Nat} {N : am_N} (hg : ∀ w ∈ Tb, (w.onTables && w.keeps) = true ∨ ∃ ty, w = .arrayClass ty) (hts : ∀ w ∈ Tb, w.before args s = true) (hR1 : R.frames = fr) (hR2 : R.locals = lo) (h : am_cb Tb fr lo mL N n) (hl : va_Nw (.methodLinkNest own i N.1 host) s) :
    va_CN R s args own i N.1 host N.2.1 mL N.2.2.1 (Cond.code N.1 N.2.1 mL N.2.2.1 :: Tb) { frames := N.2.2.2.1, cells := mc, slots := ms, locals := N.2.2.2.2 } mc ms n := by
  obtain ⟨h1, h2, h3, h4, h5⟩ := h
  exact va_cnB n hts (fun w hw => (List.mem_cons.mp hw).elim (fun q => by rw [q]; exact ⟨h1, hg _ h1⟩) (fun q => ⟨q, hg w q⟩)) rfl rfl rfl hl (hts _ h2) h3 ⟨by rw [hR1]; exact h4, by rw [hR2]; exact h5⟩
theorem am_rcv_inv {h : am_H} {x : Nat} {as : List am_V} (hx : 1000 ≤ x) (h9 : am_rcv h x as = true) : ∃ a as2, as = vR a :: as2 ∧ a < h.1 ∧ (h.2.2 a).1 = 9 + x / 1000 := by
  unfold am_rcv at h9
  rw [if_neg (by omega)] at h9
  split at h9
  · rename_i a as2
    simp only [Bool.and_eq_true, decide_eq_true_eq] at h9
    exact ⟨a, as2, rfl, h9.1, h9.2⟩
  · cases h9
theorem am_st_rev {ad : Nat → Nat} {a : Nat} {as2 rest : List am_V} : ((vR a :: as2).reverse ++ rest).map (am_cv ad) = (as2.map (am_cv ad)).reverse ++ .ref (ad a) :: rest.map (am_cv ad) := by
  rw [List.reverse_cons, List.append_assoc, List.map_append, List.map_reverse]
  rfl
set_option maxHeartbeats 4000000 in
theorem am_GS_succ {P : am_P} {Ns : List am_N} {Tb : List Cond} {l : Launch} {D : va_G} {ca : Nat → ClassId} {n : Nat} (ok : am_Ok P Ns Tb) (hG : am_GS P Ns Tb l D ca n) : am_GS P Ns Tb l D ca (n + 1) := by
  have hS := am_SS_of ok hG
  intro j C mL y bytes ret fr lo hj hN p e s m args below meth c hx hb hml hown hts hK hr hlocks hnm ad0 h0 h2 r t hrun ht1 ht2
  obtain ⟨hgood, hok⟩ := ok
  obtain ⟨-, hrow⟩ := hok j C mL _ hj hN
  obtain ⟨pc, ls, st, h⟩ := t
  have ht1 : h0.1 ≤ h.1 := ht1
  have ht2 : h0.2.1 ≤ h.2.1 := ht2
  have hA : ∀ q, s.heap.size ≤ q → va_A (am_ws ad0 ca h0) s.heap.size q := fun q hq => Or.inr hq
  unfold am_x at hrun
  split at hrun
  · cases hrun
  · rename_i t2 e1
    obtain ⟨row, g1, g2⟩ := mn_1 e1
    obtain ⟨ins, len, x, z⟩ := row
    obtain ⟨r1, r2, -, -⟩ := hrow pc _ g1
    have m1 := mn_sem g2
    have m2 := mn_x n hrun
    have r3 := r2 (h2.1 - h0.1) (h2.2.1 - h0.2.1)
    rw [← hnm] at r3
    exact am_sim hx hb hml hown hts hK.1 hK.2.2.2 hA r1 r3 g2 (show t2.2.2.2.1 - h0.1 ≤ h2.1 - h0.1 by have := m2.1; omega) (show t2.2.2.2.2.1 - h0.2.1 ≤ h2.2.1 - h0.2.1 by have := m2.2; omega)
      (hG j C mL y bytes ret fr lo hj hN p e s m args below meth c hx hb hml hown hts hK hr hlocks hnm ad0 h0 h2 r t2 hrun (Nat.le_trans ht1 m1.1) (Nat.le_trans ht2 m1.2))
  · rename_i q e1
    obtain ⟨row, g1, g2⟩ := mn_1 e1
    obtain ⟨ins, len, x, z⟩ := row
    obtain ⟨r1, r2, r3, -⟩ := hrow pc _ g1
    have r2 := r2 (h2.1 - h0.1) (h2.2.1 - h0.2.1)
    split at hrun
    · cases hrun
    · rename_i M hM
      obtain ⟨C3, mL3⟩ := M
      split at hrun
      · rename_i hcat
        split at hrun
        · cases hrun
        · rename_i rr hcal
          obtain ⟨r4, h4⟩ := rr
          obtain ⟨i9, hins, nx1, nx2, hz, hc8, hrcv, hq⟩ : ∃ i9, (ins = .invokevirtual i9 ∨ ins = .invokestatic i9 ∨ ins = .invokespecial i9) ∧ x ≠ 900 ∧ x ≠ 901 ∧ z ≤ st.length ∧ ((st.drop z).map am_cat).sum ≤ 8 ∧ am_rcv h x (st.take z).reverse = true ∧ q = (x % 1000, (st.take z).reverse, pc + len, ls, st.drop z, h) := by
            rcases am_kind g2 with ⟨t9, q9⟩ | ⟨i9, q8, q9⟩ | ⟨-, q9⟩ | ⟨-, q9⟩
            · cases q9
            · rcases iv_inv q9 with ⟨-, a, -, e2⟩ | ⟨-, e2⟩ | ⟨q1, q2, q3, q4, q5, e2⟩
              · cases e2
              · obtain ⟨_, _, _, _, _, -, -, e3⟩ := iv_acopy e2
                cases e3
              · cases e2
                exact ⟨i9, q8, q1, q2, q3, q4, q5, rfl⟩
            · obtain ⟨v, -, -, e2⟩ := iv_ret q9
              cases e2
            · obtain ⟨-, e2⟩ := iv_retv q9
              cases e2
          subst hq
          have hlen : len = 3 := by
            rcases hins with rfl | rfl | rfl <;> exact r2.1
          subst hlen
          have hM : P.2[x % 1000]? = some (C3, mL3) := hM
          have m3 := mn_x n hcal
          have m4 := mn_x n hrun
          have m3a : h.1 ≤ h4.1 := m3.1
          have m3b : h.2.1 ≤ h4.2.1 := m3.2
          have m4a : h4.1 ≤ h2.1 := m4.1
          have m4b : h4.2.1 ≤ h2.2.1 := m4.2
          have kont := hG j C mL y bytes ret fr lo hj hN p e s m args below meth c hx hb hml hown hts hK hr hlocks hnm ad0 h0 h2 r _ hrun (show h0.1 ≤ h4.1 by omega) (show h0.2.1 ≤ h4.2.1 by omega)
          have hst : st = (st.take z).reverse.reverse ++ st.drop z := by rw [List.reverse_reverse, List.take_append_drop]
          have hzl : ((st.take z).reverse).length = z := by rw [List.length_reverse, List.length_take]; omega
          generalize hasd : (st.take z).reverse = as at hst hrcv hcal hzl
          generalize hrsd : st.drop z = rest at hst hc8 kont
          rw [hst]
          have hcal : am_x P n C3 (0, am_pad mL3 as, [], h) = some (r4, h4) := hcal
          have hcat : (as.map am_cat).sum ≤ mL3 := by rw [← hasd]; exact hcat
          refine sm_back (a := #[]) (mc := h4.1 - h.1) (ms := h4.2.1 - h.2.1) hA rfl rfl (fun ad H locs LS k1 k2 k3 k4 k5 k6 k7 => ?_) kont
          have hva : ∀ v ∈ as, am_vk h.1 v := fun v hv => k4 v (List.mem_append_left _ (List.mem_reverse.mpr hv))
          have hW8 : 2 * (F0 m pc LS ((as.reverse ++ rest).map (am_cv ad))).monitorRoom + ((rest.map (am_cv ad)).map fun v => v.category).sum ≤ 8 := lv_room (by rw [am_cat_sum]; exact hc8)
          have hf8 : h.1 - h0.1 + (h4.1 - h.1) ≤ h2.1 - h0.1 ∧ h.2.1 - h0.2.1 + (h4.2.1 - h.2.1) ≤ h2.2.1 - h0.2.1 := ⟨by omega, by omega⟩
          rcases hins with rfl | rfl | rfl
          · obtain ⟨C5, mL5, N5, n5, c1, c2, c3, c4, c5, ⟨T5, z5, c6⟩, c7, c8, c9⟩ := r3
            rw [hM] at c1
            cases c1
            obtain ⟨a, as2, rfl, b1, b2⟩ := am_rcv_inv c5 hrcv
            have hMet := hS _ _ _ _ hM c2 _ _ _ _ hcal k3 hva hcat ad H.size
            have cw := am_cw (R := { frames := fr, cells := h2.1 - h0.1, slots := h2.2.1 - h0.2.1, locals := lo }) (own := y.cls) (i := i9) (mc := h4.1 - h.1) (ms := h4.2.1 - h.2.1) hgood hts rfl rfl c3 (hts _ c7)
            rw [am_st_rev] at hW8 ⊢
            exact va_runV (As := as2.map (am_cv ad)) (b := ad a) (C := N5.1.cls) ⟨hx, hb, hml, hown, hts⟩ hMet ⟨cw, hts _ c8, hts _ c9⟩ ⟨am_Pc.blind, va_recv hK.1 k5 c6 ((am_ws_at b1).trans (by rw [am_ce_obj (x := x / 1000 - 1) (by omega)])), am_Pc.at (as := vR a :: as2) hK k5 k6⟩ rfl (by rw [List.length_map]; simp at hzl; omega) k7 rfl hW8 r1 hf8
          · rcases r3 with r3 | ⟨C5, mL5, N5, n5, c1, c2, c3, c4, c7, c8⟩
            · exact absurd r3 nx2
            · rw [hM] at c1
              cases c1
              have hMet := hS _ _ _ _ hM c2 _ _ _ _ hcal k3 hva hcat ad H.size
              have cw := am_cw (R := { frames := fr, cells := h2.1 - h0.1, slots := h2.2.1 - h0.2.1, locals := lo }) (own := y.cls) (i := i9) (mc := h4.1 - h.1) (ms := h4.2.1 - h.2.1) hgood hts rfl rfl c3 (hts _ c7)
              rw [List.map_append, List.map_reverse] at hW8 ⊢
              exact va_runS (As := as.map (am_cv ad)) ⟨hx, hb, hml, hown, hts⟩ hMet ⟨cw, hts _ c8⟩ ⟨am_Pc.blind, am_Pc.at hK k5 k6⟩ rfl (by rw [List.length_map]; omega) k7 rfl hW8 r1 hf8
          · rcases r3 with r3 | ⟨C5, mL5, N5, n5, c1, c2, c3, c4, c5, c6, c7, c8, c9⟩
            · exact absurd r3 nx1
            · rw [hM] at c1
              cases c1
              obtain ⟨a, as2, rfl, b1, b2⟩ := am_rcv_inv c5 hrcv
              have hMet := hS _ _ _ _ hM c2 _ _ _ _ hcal k3 hva hcat ad H.size
              obtain ⟨y5, b5, ret5, fr5, lo5⟩ := N5
              have c6 : ret5 = none := c6
              subst c6
              rw [am_st_rev] at hW8 ⊢
              rcases c9 with c9 | ⟨o1, o2⟩
              · have cw := am_cw (R := { frames := fr, cells := h2.1 - h0.1, slots := h2.2.1 - h0.2.1, locals := lo }) (own := y.cls) (i := i9) (mc := h4.1 - h.1) (ms := h4.2.1 - h.2.1) hgood hts rfl rfl c3 (hts _ c9)
                exact va_runI (As := as2.map (am_cv ad)) (b := ad a) ⟨hx, hb, hml, hown, hts⟩ hMet ⟨cw, c7, hts _ c8⟩ ⟨am_Pc.blind, am_Pc.at (as := vR a :: as2) hK k5 k6⟩ rfl (by rw [List.length_map]; simp at hzl; omega) k7 rfl hW8 r1 hf8
              · have hnest : va_Nw (.methodLinkNest y.cls i9 y5 "StrandBoxes") s := by
                  rw [o1]
                  rcases o2 with ⟨rfl, o3⟩ | ⟨rfl, o3⟩
                  · have o3 : y5 = yX3_init := o3
                    rw [o3]
                    exact hK.2.1
                  · have o3 : y5 = yX1_init := o3
                    rw [o3]
                    exact hK.2.2.1
                have cw := am_cn (R := { frames := fr, cells := h2.1 - h0.1, slots := h2.2.1 - h0.2.1, locals := lo }) (own := y.cls) (i := i9) (mc := h4.1 - h.1) (ms := h4.2.1 - h.2.1) hgood hts rfl rfl c3 hnest
                exact va_runIN (As := as2.map (am_cv ad)) (b := ad a) ⟨hx, hb, hml, hown, hts⟩ hMet ⟨cw, c7, hts _ c8⟩ ⟨am_Pc.blind, am_Pc.at (as := vR a :: as2) hK k5 k6⟩ rfl (by rw [List.length_map]; simp at hzl; omega) k7 rfl hW8 r1 hf8
      · cases hrun
  · rename_i q e1
    obtain ⟨row, g1, g2⟩ := mn_1 e1
    obtain ⟨ins, len, x, z⟩ := row
    obtain ⟨r1, r2, -, r4⟩ := hrow pc _ g1
    have r2 := r2 0 0
    have hq := Option.some.inj hrun
    subst hq
    rcases am_kind g2 with ⟨t9, q9⟩ | ⟨i9, q8, q9⟩ | ⟨q8, q9⟩ | ⟨rfl, q9⟩
    · cases q9
    · rcases iv_inv q9 with ⟨-, a, -, e2⟩ | ⟨-, e2⟩ | ⟨q1, q2, q3, q4, q5, e2⟩
      · cases e2
      · obtain ⟨_, _, _, _, _, -, -, e3⟩ := iv_acopy e2
        cases e3
      · cases e2
    · obtain ⟨v, rfl, q1, e2⟩ := iv_ret q9
      cases e2
      have hlen : len = 1 := by
        rcases q8 with rfl | rfl <;> exact r2
      subst hlen
      refine sm_ret (x := x) (len := 1) hx hb hr hlocks r1 rfl ?_ q1
      rcases q8 with rfl | rfl
      · exact r4.elim (fun g => Or.inl ⟨rfl, g.1, g.2⟩) (fun g => Or.inr (Or.inl ⟨rfl, g.1, g.2⟩))
      · exact Or.inr (Or.inr ⟨rfl, r4.1, r4.2⟩)
    · obtain ⟨rfl, e2⟩ := iv_retv q9
      cases e2
      have hlen : len = 1 := r2
      subst hlen
      have r4 : ret = none := r4
      subst r4
      exact sm_retv hx hb hr hlocks r1 rfl
theorem am_GS_all {P : am_P} {Ns : List am_N} {Tb : List Cond} {l : Launch} {D : va_G} {ca : Nat → ClassId} (ok : am_Ok P Ns Tb) : ∀ n, am_GS P Ns Tb l D ca n
  | 0 => fun j C mL y bytes ret fr lo hj hN p e s m args below meth c hx hb hml hown hts hK hr hlocks hnm ad0 h0 h2 r t hrun => by cases hrun
  | n + 1 => am_GS_succ ok (am_GS_all ok n)
/-- A RUN OF THE SMALL MACHINE IS A CONTRACT OF THE METHOD -/
theorem am_sound {P : am_P} {Ns : List am_N} {Tb : List Cond} {l : Launch} {D : va_G} {ca : Nat → ClassId} (ok : am_Ok P Ns Tb) (n : Nat) : am_SS P Ns Tb l D ca n := am_SS_of ok (am_GS_all ok n)
end
section
/-! The code tables are the bytes', and the tables have the words that they need: printed by wip/p20/gen16.py, but for the rows that read it. -/
def ax_N : List am_N := [(yX0_init, cX0_init, none, 4, 93),
  (yX0_countPairings, cX0_countPairings, (some .int), 0, 0),
  (yX0_listPairings, cX0_listPairings, none, 2, 49),
  (yX0_pairBy, cX0_pairBy, none, 1, 24),
  (yX0_freeBehind, cX0_freeBehind, (some .int), 0, 0),
  (yX0_countUp, cX0_countUp, none, 0, 0),
  (yX0_numberOf, cX0_numberOf, (some .int), 0, 0),
  (yX0_countPlane, cX0_countPlane, (some .int), 3, 71),
  (yX0_isPlane, cX0_isPlane, (some .boolean), 2, 45),
  (yX0_isBetween, cX0_isBetween, (some .boolean), 1, 21),
  (yX0_placeRound, cX0_placeRound, (some .int), 0, 0),
  (yX0_countThrough, cX0_countThrough, (some .int), 0, 0),
  (yX0_upsideDown, cX0_upsideDown, (some .int), 1, 26),
  (yX0_across, cX0_across, (some .int), 0, 0),
  (yX0_closeRings, cX0_closeRings, (some .int), 1, 21),
  (yX0_forgetSeen, cX0_forgetSeen, none, 0, 0),
  (yX0_stackLetters, cX0_stackLetters, none, 3, 70),
  (yX0_letterAt, cX0_letterAt, (some .int), 0, 0),
  (yX0_isLetter, cX0_isLetter, (some .boolean), 0, 0),
  (yX0_ofLetter, cX0_ofLetter, (some .int), 1, 26),
  (yX0_pair, cX0_pair, none, 0, 0),
  (yX0_ofPairs, cX0_ofPairs, (some .int), 1, 26),
  (yX0_join, cX0_join, (some .int), 2, 47),
  (yX0_follow, cX0_follow, (some .int), 1, 21),
  (yX0_countInnerRings, cX0_countInnerRings, (some .int), 1, 21),
  (yX0_spellAll, cX0_spellAll, none, 2, 48),
  (yX0_spellBehind, cX0_spellBehind, none, 1, 21),
  (yX0_letterOf, cX0_letterOf, (some .int), 1, 21),
  (yX0_stackOn, cX0_stackOn, (some .int), 0, 0),
  (yX1_init, cX1_init, none, 1, 12),
  (yX1_begin, cX1_begin, none, 0, 0),
  (yX1_allows, cX1_allows, (some .boolean), 0, 0),
  (yX1_append, cX1_append, (some .boolean), 0, 0),
  (yX1_dropLast, cX1_dropLast, (some .boolean), 0, 0),
  (yX1_wholeAt, cX1_wholeAt, (some .int), 3, 77),
  (yX1_addStates, cX1_addStates, none, 2, 48),
  (yX1_addState, cX1_addState, none, 0, 0),
  (yX2_init, cX2_init, none, 2, 46),
  (yX2_nextDraft, cX2_nextDraft, none, 0, 0),
  (yX2_keepDraft, cX2_keepDraft, none, 1, 18),
  (yX2_isHalf, cX2_isHalf, (some .boolean), 1, 23),
  (yX2_keepsWithin, cX2_keepsWithin, (some .boolean), 0, 0),
  (yX2_countLeaving, cX2_countLeaving, (some .int), 0, 0),
  (yX2_find, cX2_find, (some .int), 0, 0),
  (yX2_lay, cX2_lay, (some .int), 1, 26),
  (yX2_leadsOut, cX2_leadsOut, (some .boolean), 0, 0),
  (yX2_goRound, cX2_goRound, none, 0, 0),
  (yX2_rank, cX2_rank, (some .int), 4, 102),
  (yX2_fillTable, cX2_fillTable, (some .int), 3, 77),
  (yX2_fillRow, cX2_fillRow, none, 2, 50),
  (yX2_raise, cX2_raise, (some .int), 0, 0),
  (yX2_swapRows, cX2_swapRows, none, 0, 0),
  (yX2_clearBelow, cX2_clearBelow, none, 1, 22),
  (yX3_init, cX3_init, none, 1, 12),
  (yX3_begin, cX3_begin, none, 0, 0),
  (yX3_take, cX3_take, none, 1, 18),
  (yX3_isLike, cX3_isLike, (some .boolean), 1, 23),
  (yX3_isAt, cX3_isAt, (some .boolean), 0, 0),
  (yX3_isFactor, cX3_isFactor, (some .boolean), 0, 0),
  (yX3_join, cX3_join, (some .boolean), 3, 66),
  (yX3_change, cX3_change, (some .boolean), 2, 41),
  (yX3_insert, cX3_insert, (some .boolean), 2, 41),
  (yX3_moveTail, cX3_moveTail, none, 1, 18),
  (yX3_joinAll, cX3_joinAll, (some .boolean), 4, 91),
  (yX3_joinProducts, cX3_joinProducts, (some .boolean), 4, 91),
  (yX3_fitsProduct, cX3_fitsProduct, (some .boolean), 1, 21),
  (yX4_init, cX4_init, none, 5, 115),
  (yX4_many, cX4_many, (some .int), 4, 93),
  (yX4_partner, cX4_partner, (some .int), 2, 42),
  (yX4_about, cX4_about, (some .int), 3, 71),
  (yX4_stack, cX4_stack, (some .int), 2, 42),
  (yX4_box, cX4_box, (some .int), 2, 51),
  (yX4_plain, cX4_plain, (some .int), 2, 48),
  (yX4_word, cX4_word, (some .int), 2, 43),
  (yX4_clear, cX4_clear, (some .int), 1, 21),
  (yX4_add, cX4_add, (some .int), 4, 91),
  (yX4_work, cX4_work, (some .int), 6, 141),
  (yX4_sum, cX4_sum, (some .int), 1, 20),
  (yX4_term, cX4_term, (some .long), 1, 20),
  (yX4_same, cX4_same, (some .int), 2, 45),
  (yX4_closed, cX4_closed, (some .long), 1, 20),
  (yX4_halves, cX4_halves, (some .int), 2, 41),
  (yX4_half, cX4_half, (some .int), 2, 41),
  (yX4_form, cX4_form, (some .int), 2, 50),
  (yX4_free, cX4_free, (some .int), 5, 129),
  (yX4_row, cX4_row, (some .int), 1, 21),
  (yX4_cross, cX4_cross, (some .int), 1, 21),
  (yX4_back, cX4_back, (some .int), 1, 20),
  (yX4_power, cX4_power, (some .int), 4, 99),
  (yX4_isStrands, cX4_isStrands, (some .boolean), 0, 0),
  (yX4_isSum, cX4_isSum, (some .boolean), 0, 0),
  (yX4_isThrough, cX4_isThrough, (some .boolean), 1, 20),
  (yX4_isBox, cX4_isBox, (some .boolean), 1, 20),
  (yX4_isPrime, cX4_isPrime, (some .boolean), 0, 0),
  (yX4_make, cX4_make, (some .boolean), 5, 118),
  (yX5_init, cX5_init, none, 5, 123),
  (yX5_in, cX5_in, (some .boolean), 0, 0),
  (yX5_isWide, cX5_isWide, (some .boolean), 1, 25),
  (yX5_boxes, cX5_boxes, (some .int), 0, 0),
  (yX5_first, cX5_first, (some .int), 0, 0),
  (yX5_isBox, cX5_isBox, (some .boolean), 2, 45),
  (yX5_at, cX5_at, (some .int), 1, 20),
  (yX5_decode, cX5_decode, none, 2, 41),
  (yX5_numberOf, cX5_numberOf, (some .int), 2, 41),
  (yX5_lead, cX5_lead, (some .int), 0, 0),
  (yX5_stacked, cX5_stacked, (some .int), 3, 65),
  (yX5_ringsClosed, cX5_ringsClosed, (some .int), 2, 41),
  (yX5_isLetter, cX5_isLetter, (some .boolean), 1, 25),
  (yX5_plainBox, cX5_plainBox, (some .int), 3, 65),
  (yX5_findWords, cX5_findWords, none, 4, 94),
  (yX5_isPlane, cX5_isPlane, (some .boolean), 2, 41),
  (yX5_round, cX5_round, (some .int), 0, 0),
  (yX5_many, cX5_many, (some .int), 3, 71),
  (yX5_partner, cX5_partner, (some .int), 3, 66),
  (yX5_through, cX5_through, (some .int), 2, 41),
  (yX5_upsideDown, cX5_upsideDown, (some .int), 3, 65),
  (yX5_about, cX5_about, (some .int), 4, 89),
  (yX5_stack, cX5_stack, (some .int), 4, 94),
  (yX5_box, cX5_box, (some .int), 3, 65),
  (yX5_plain, cX5_plain, (some .int), 4, 89),
  (yX5_word, cX5_word, (some .int), 3, 66),
  (yX5_isSum, cX5_isSum, (some .boolean), 1, 25),
  (yX5_load, cX5_load, none, 0, 0),
  (yX5_store, cX5_store, (some .int), 0, 0),
  (yX5_move, cX5_move, none, 0, 0),
  (yX5_comes, cX5_comes, (some .boolean), 1, 25),
  (yX5_clear, cX5_clear, (some .int), 2, 45),
  (yX5_add, cX5_add, (some .int), 3, 66),
  (yX5_work, cX5_work, (some .int), 4, 94),
  (yX5_sum, cX5_sum, (some .int), 2, 45),
  (yX5_term, cX5_term, (some .long), 2, 45),
  (yX5_same, cX5_same, (some .int), 2, 45),
  (yX5_closed, cX5_closed, (some .long), 3, 69),
  (yX5_isHalf, cX5_isHalf, (some .boolean), 0, 0),
  (yX5_lay, cX5_lay, (some .int), 1, 27),
  (yX5_areHalves, cX5_areHalves, (some .boolean), 2, 45),
  (yX5_halves, cX5_halves, (some .int), 3, 66),
  (yX5_half, cX5_half, (some .int), 3, 66),
  (yX5_formOf, cX5_formOf, (some .int), 0, 0),
  (yX5_form, cX5_form, (some .int), 3, 66),
  (yX5_isPrime, cX5_isPrime, (some .boolean), 0, 0),
  (yX5_inverse, cX5_inverse, (some .int), 0, 0),
  (yX5_free, cX5_free, (some .int), 4, 93),
  (yX5_reduce, cX5_reduce, none, 1, 22),
  (yX5_row, cX5_row, (some .int), 1, 25),
  (yX5_cross, cX5_cross, (some .int), 1, 25),
  (yX5_back, cX5_back, (some .int), 0, 0),
  (yX5_addState, cX5_addState, none, 4, 94),
  (yX5_power, cX5_power, (some .int), 5, 123),
  (yJ9_floorMod_7cf53, cJ9_floorMod_7cf53, (some .int), 0, 0),
  (yJ9_abs_0f7a4, cJ9_abs_0f7a4, (some .int), 0, 0),
  (yJ9_abs_067f4, cJ9_abs_067f4, (some .long), 0, 0),
  (yJ9_min_7cf53, cJ9_min_7cf53, (some .int), 0, 0)]
def ax_cd : List Nat := [131, 135, 141, 145, 153, 160, 188, 327, 331, 339, 335, 356, 360, 168, 164, 149, 172, 176, 184, 180, 156, 376, 192, 196, 200, 204, 208, 389, 368, 108, 559, 567, 571, 579, 588, 592, 600, 259, 277, 272, 265, 268, 493, 501, 509, 513, 517, 528, 535, 539, 543, 547, 551, 79, 400, 460, 478, 419, 413, 410, 423, 432, 427, 456, 444, 447, 66, 320, 343, 351, 364, 372, 380, 385, 393, 404, 436, 464, 468, 474, 482, 486, 497, 505, 521, 555, 563, 575, 583, 323, 396, 489, 347, 524, 440, 605, 637, 735, 609, 619, 750, 616, 613, 631, 646, 642, 766, 634, 627, 623, 740, 743, 732, 747, 758, 762, 754, 770, 774, 779, 783, 790, 806, 795, 816, 810, 787, 799, 820, 825, 829, 835, 839, 854, 851, 847, 844, 858, 866, 862, 876, 884, 870, 881, 888, 892, 896, 907, 900, 531, 596, 450, 211]
def ax_in : List Nat := [57, 57, 57, 57, 57, 57, 57, 57, 57, 57, 57, 57, 57, 57, 57, 57, 57, 57, 57, 57, 57, 57, 57, 57, 57, 57, 57, 57, 57, 56, 56, 56, 56, 56, 56, 56, 56, 60, 60, 60, 60, 60, 60, 60, 60, 60, 60, 60, 60, 60, 60, 60, 60, 55, 55, 55, 55, 55, 55, 55, 55, 55, 55, 55, 55, 55, 54, 54, 54, 54, 54, 54, 54, 54, 54, 54, 54, 54, 54, 54, 54, 54, 54, 54, 54, 54, 54, 54, 54, 54, 54, 54, 54, 54, 54, 61, 61, 61, 61, 61, 61, 61, 61, 61, 61, 61, 61, 61, 61, 61, 61, 61, 61, 61, 61, 61, 61, 61, 61, 61, 61, 61, 61, 61, 61, 61, 61, 61, 61, 61, 61, 61, 61, 61, 61, 61, 61, 61, 61, 61, 61, 61, 61, 61, 61, 61, 61, 61, 61, 58, 58, 58, 58]
def ah_X0_init : List (List Nat) := [[], [132, 68, 69], [], [], [215], [], [], [], [], [216], [], [], [], [], [], [], [217], [], [], [216], [133, 134], [218], [], [], [218], [], [216], [136, 102], [220], [], [], [218], [102], [222], [], [], [218], [102], [225], [], [], [218], [], [136, 102], [227], [], [], [218], [], [217], [136, 102], [228], [], [], [216], [102], [230], [], [], [216], [255], [231], [], [138, 140, 0], [], [], [], [], [218], [], [], [222], [], [], [], [220], [], [], [161, 163, 5], [], [], [], [], [169, 171, 7], [], [201, 203, 14], []]
def ah_X0_countPairings : List (List Nat) := [[], [], [], [], [], [], [], [], [], [], [], [], [], [], [], [], []]
def ah_X0_listPairings : List (List Nat) := [[], [215], [102], [], [], [], [], [], [218], [], [], [], [], [220], [], [], [142, 144, 1], [], [], [157, 159, 4], [], [], []]
def ah_X0_pairBy : List (List Nat) := [[], [146, 148, 2], [], [], [], [], [], [], [216], [], [], [], [], [], [215], [], [], [231], [], [], [], [], [], [], [], [], [150, 152, 3], [], [], [231], [], [], [], [], [231], [], [], [], [], [], [], [154, 155], [], [], [], []]
def ah_X0_freeBehind : List (List Nat) := [[], [], [], [], [], [], [], [], [216], [], [], [], [], [231], [], [], [], [], [], [], [], [231], [], [], [], [], [], [], [], [], [], [], [], []]
def ah_X0_countUp : List (List Nat) := [[], [215], [], [], [], [], [], [], [], [], [], [216], [], [], [], [], [], [], [], [], [], [], [], [], [], [], [], [], [], [], [], [], [], [], []]
def ah_X0_numberOf : List (List Nat) := [[], [], [], [216], [], [], [], [], [], [], [], [216], [], [], [], [], [], [], [], [], [], [], [], [], [], [], [], [], [], [], [], [], [], [], [], [], [], [], [], [], [], [], [], [], [], [], [], [], [], [], [], [], []]
def ah_X0_countPlane : List (List Nat) := [[], [], [], [], [], [], [218], [], [], [], [], [328, 329, 330], [], [], [], [], [], [], [], [], [], []]
def ah_X0_isPlane : List (List Nat) := [[], [220], [], [], [], [], [], [], [], [216], [], [], [], [332, 334, 19], [], [], [], [], [], [332, 334, 19], [], [], [], [], [], [216], [], [], [], [], [], [336, 338, 20], [], [], [], [], [], [], [], [336, 338, 20], [], [], [], [], [], [], [], [], []]
def ah_X0_isBetween : List (List Nat) := [[], [], [332, 334, 19], [], [], [], [], [], [], [], [], [], [], []]
def ah_X0_placeRound : List (List Nat) := [[], [], [215], [], [], [], [], [215], [], [216], [], [], [], [], [], []]
def ah_X0_countThrough : List (List Nat) := [[], [], [], [], [], [], [215], [], [], [], [220], [], [], [], [], [], [215], [], [], [], [], [], [], [], [], [], []]
def ah_X0_upsideDown : List (List Nat) := [[], [], [], [], [216], [], [], [230], [], [], [165, 167, 6], [], [], [220], [], [], [], [], [165, 167, 6], [], [], [], [], [], [230], [185, 187, 10], []]
def ah_X0_across : List (List Nat) := [[], [], [215], [], [], [], [215], [], [], [], [], [215], [], []]
def ah_X0_closeRings : List (List Nat) := [[], [146, 148, 2], [], [], [], [], [], [], [216], [], [], [231], [], [], [], [], [], [], [], [], [], [], [216], [], [], [231], [], [], [], [], [231], [], [], [], [], [], [], [], [], [231], [], [], [], [], [], [165, 167, 6], [], [], [], [], [], [], []]
def ah_X0_forgetSeen : List (List Nat) := [[], [], [], [], [216], [], [], [231], [], [], [], [], [], []]
def ah_X0_stackLetters : List (List Nat) := [[], [], [], [], [217], [], [], [], [], [173, 175, 8], [177, 178, 179], [], [], [], [], [], [218], [], [], [228], [], [], [], [], [], [220], [], [], [], [220], [], [], [189, 191, 11], [], [], [], [], [], []]
def ah_X0_letterAt : List (List Nat) := [[], [], [215], [], [], [], [], [], [], [], [], [], [215], [], [], [], [], [], []]
def ah_X0_isLetter : List (List Nat) := [[], [], [], [], [], [215], [], [], [], [], [], [], [], [215], [], [], [], [], [], [], [], []]
def ah_X0_ofLetter : List (List Nat) := [[], [], [], [], [181, 183, 9], [], [], [], [], [], [], [], [216], [], [], [230], [], [], [], [165, 167, 6], [], [], [], [], [], [], [], [], [], [], [], [230], [], [], [215], [], [], [], [], [154, 155], [], [230], [], [], [], [], [215], [], [], [154, 155], [], [], [], [], [230], [], [], [], [], [154, 155], [], [230], [], [215], [], [], [], [], [], [215], [], [], [154, 155], [], [], [230], [185, 187, 10], []]
def ah_X0_pair : List (List Nat) := [[], [], [], [], [], [], [], [], []]
def ah_X0_ofPairs : List (List Nat) := [[], [], [], [215], [], [], [], [], [], [], [], [], [146, 148, 2], [], [], [], [], [215], [], [], [], [], [], [], [], [], [], [], [], [], [], [], [], [], [], [], [], [], [], [], [], [216], [], [], [], [216], [], [], [], [], [], [231], [], [], [], [], [231], [], [], [], [], [], [], [231], [], [], [], [], [231], [], [], [], [], [230], [], [], [154, 155], [], [], [], [], [230], [185, 187, 10], []]
def ah_X0_join : List (List Nat) := [[], [146, 148, 2], [], [], [], [], [216], [], [], [230], [], [], [], [], [], [193, 195, 12], [], [], [], [], [], [230], [185, 187, 10], [], [], [], [], [197, 199, 13], [], [], []]
def ah_X0_follow : List (List Nat) := [[], [], [215], [], [], [], [], [], [], [], [], [], [], [], [216], [], [], [], [], [], [], [], [], [], [], [], [], [], [], [215], [], [], [], [], [], [], [], [], [231], [], [], [], [], [215], [], [], [], [], [], [], [], [165, 167, 6], [], [], [], [], [], [], [], [], [], [], []]
def ah_X0_countInnerRings : List (List Nat) := [[], [], [], [], [], [], [215], [], [], [231], [], [], [], [], [], [], [], [], [], [], [215], [], [], [231], [], [], [], [], [231], [], [], [], [], [], [], [], [165, 167, 6], [], [165, 167, 6], [], [], [231], [], [], [], [], [], [], [], [], [], [], [], [], []]
def ah_X0_spellAll : List (List Nat) := [[], [], [], [], [218], [], [], [225], [], [], [], [], [], [], [218], [102], [], [], [], [], [], [177, 178, 179], [], [], [225], [], [], [], [], [], [], [], [], [], [], [], [], [], [], [218], [], [], [], [], [], [217], [], [], [228], [], [], [], [], [], [], [], [], [], [218], [], [], [225], [], [], [], [], [], [], [218], [], [], [], [], [], [], [], [205, 207, 15], [], [], [], [], [], [], [], [], [], []]
def ah_X0_spellBehind : List (List Nat) := [[], [225], [], [], [], [209, 210], [], [], [227], [], [], [], [], [227], [], [], [], [], [212, 214, 213, 59], [], [227], [], [], [], [], [], [], [225], [], [], [], [], [], []]
def ah_X0_letterOf : List (List Nat) := [[], [], [225], [], [], [], [], [], [227], [], [], [], [], [173, 175, 8], [], [], []]
def ah_X0_stackOn : List (List Nat) := [[], [], [], [], [], [], [], [], [225], [], [], [], [], [228], [], [], [], [227], [], [], [], [], [], [], [], [], [], [], [], [], [], [], [], [], [], [], [], [], [], []]
def ah_X1_init : List (List Nat) := [[], [109, 68, 69], [], [], [110], [], [], [102], [114], [], [], [102], [115], []]
def ah_X1_begin : List (List Nat) := [[], [], [110], [], [], [112], [], [], [116], []]
def ah_X1_allows : List (List Nat) := [[], [], [], [], [110], [], [], [], [], [110], [], [], [], [], []]
def ah_X1_append : List (List Nat) := [[], [112], [], [], [], [], [], [114], [], [112], [], [], [], [], [112], [], [], [112], [], [], [116], [], []]
def ah_X1_dropLast : List (List Nat) := [[], [112], [], [], [], [], [], [112], [], [], [112], [], [], [116], [], []]
def ah_X1_wholeAt : List (List Nat) := [[], [116], [], [], [], [589, 591, 33], [], [], [116], [], [115], [], [], [], [], []]
def ah_X1_addStates : List (List Nat) := [[], [], [], [], [115], [], [], [], [115], [], [], [], [], [], [], [], [593, 178, 179], [], [], [], [], [], [], [112], [], [], [], [], [], [], [], [], [], [], [], [], [112], [], [], [], [], [], [], [], [], [], [], [], [], [], [], [], [114], [], [], [], [], [], [], [], [], [], [], [], [], [], [], [], [229], [], [], [], [114], [], [], [594, 595], [], [], [], [], [], [], [], [], [], [], [], [], [], [], [], [], [], [], [], [], [224], [], [], [], [], [], [597, 599, 34], [], [], []]
def ah_X1_addState : List (List Nat) := [[], [], [], [], [], [], [], [], [], [], [], [], [], [], [], [], [], [], [], [], [], [], [], [], [], [], [115], [], [], [], [], [], [], [], [], [], [], [], [], [], [], [], [], [], [], [], [], [], []]
def ah_X2_init : List (List Nat) := [[], [260, 68, 69], [], [], [102], [281], [], [], [], [261, 102], [282], [], [], [278], [], [], [], [261, 102], [279], [], [], [102], [283], [], [], [255], [284], [], [], [], [], [], [], [], [], [], [], [], [], [], [], [], [], [], [], [], [], [], [], [283], [262, 264, 16], [], [], [285], [], [], [], [269, 271, 17], [], [274, 276, 18], [], [], []]
def ah_X2_nextDraft : List (List Nat) := [[], [278], [], [], [], [], [], [], [283], [], [], [], [278], [], [], [283], [], [], [], [], [], [], [], [], [283], [], [], [], [], [], [], []]
def ah_X2_keepDraft : List (List Nat) := [[], [283], [], [], [279], [], [285], [], [], [], [278], [273, 214, 213, 59], [], [], [], [], [278], [], [], [281], [], [285], [], [], [], [283], [], [], [], [278], [], [], [], [], [], [], [], [], [], [], [285], [], [], [285], []]
def ah_X2_isHalf : List (List Nat) := [[], [], [], [], [278], [], [], [], [], [], [], [], [278], [], [], [], [], [], [], [], [], [], [], [], [], [], [278], [], [], [], [], [266, 267], [], [], [], [], [], [], []]
def ah_X2_keepsWithin : List (List Nat) := [[], [], [], [], [], [], [], [], [], [], [], [], [], [], [], [], [], [], [], [], [], [], []]
def ah_X2_countLeaving : List (List Nat) := [[], [], [], [], [], [], [285], [], [], [], [281], [], [], [], [], [], [], [], [], [], [], [], [], []]
def ah_X2_find : List (List Nat) := [[], [], [], [], [], [], [285], [], [], [281], [], [], [], [], [], [], [], [], [], [], [], [], [], []]
def ah_X2_lay : List (List Nat) := [[], [], [], [], [278], [], [], [284], [], [], [], [], [], [], [], [], [], [278], [], [], [279], [], [], [], [], [], [278], [], [], [], [279], [], [], [], [279], [], [], [], [510, 512, 27], [], [], [], [], [], [], [], [], [], [], [], [278], [], [], [284], [], [], [], [], [], [], [279], [], [], [], [279], [], [], [], [514, 516, 28], [], [], [], []]
def ah_X2_leadsOut : List (List Nat) := [[], [], [], [], [], [], [278], [], [], [284], [], [], [], [], [], [], [], [], [], [278], [], [], [], [], [284], [], [], [], [], [], [], [], [], [], [278], [], [], [], [], [], [], []]
def ah_X2_goRound : List (List Nat) := [[], [], [], [], [], [], [278], [], [], [], [278], [], [], [284], [], [], [], [], [284], [], [], [], [], [], [], [], [], [], [278], [], [], [284], [], [], [], [], [], [], [], [], [], []]
def ah_X2_rank : List (List Nat) := [[], [], [], [], [529, 530], [], [532, 534, 29], [], [], [], [], [], [], [], [], [], [], [], [], [], [], [282], [], [], [], [], [], [], [], [], [], [], [], [], [], [], [544, 546, 31], [], [], [], [], [], [548, 550, 32], [], [], [], [], []]
def ah_X2_fillTable : List (List Nat) := [[], [], [], [], [], [], [285], [], [], [281], [], [], [], [], [], [], [282], [], [], [], [], [], [536, 538, 30], [], [], [], [], []]
def ah_X2_fillRow : List (List Nat) := [[], [], [], [], [], [], [285], [], [], [281], [], [], [], [281], [], [], [], [], [], [], [540, 507, 508], [], [], [], [], [], [], [], [], [], [], [], [541, 542], [], [], [], [], []]
def ah_X2_raise : List (List Nat) := [[], [], [], [], [], [], [], [], [], [], [], [], [], [], [], [], [], [], []]
def ah_X2_swapRows : List (List Nat) := [[], [], [], [], [], [], [282], [], [], [], [], [], [], [282], [], [], [], [], [282], [], [], [], [], [], [], [282], [], [], [], [], [], [], [], []]
def ah_X2_clearBelow : List (List Nat) := [[], [282], [], [], [], [], [], [], [], [], [], [], [], [], [], [282], [], [], [], [], [], [], [], [], [], [], [], [282], [], [], [], [], [282], [], [], [], [], [], [], [], [282], [], [], [], [], [], [], [], [], [529, 530], [], [], [], [], [], []]
def ah_X3_init : List (List Nat) := [[], [80, 68, 69], [], [], [81], [], [], [102], [85], [], [], [102], [87], [], [], [103], [89], []]
def ah_X3_begin : List (List Nat) := [[], [], [81], [], [], [83], []]
def ah_X3_take : List (List Nat) := [[], [], [81], [81], [], [], [83], [83], [], [85], [], [], [85], [], [], [83], [428, 214, 213, 59], [], [87], [], [], [87], [], [], [83], [428, 214, 213, 59], [], [89], [], [], [89], [], [], [83], [428, 214, 213, 59], []]
def ah_X3_isLike : List (List Nat) := [[], [81], [], [81], [], [], [83], [], [83], [], [], [], [], [], [], [], [83], [], [], [], [], [85], [], [], [], [87], [], [], [416, 418, 22], [], [], [89], [], [], [], [89], [], [], [], [], [], [], [], [], [], []]
def ah_X3_isAt : List (List Nat) := [[], [], [83], [], [], [85], [], [], [], [], [], [87], [], [], [], [], [], [], [], []]
def ah_X3_isFactor : List (List Nat) := [[], [414], [], [], [], [415], [], [], [], [], [], []]
def ah_X3_join : List (List Nat) := [[], [], [], [], [411, 412], [], [], [], [], [], [], [], [83], [], [], [85], [], [], [], [], [], [85], [], [], [], [], [], [87], [], [], [], [], [], [], [], [], [], [], [416, 418, 22], [], [], [], [], [89], [], [], [], [], [420, 422, 23], [], [], [], [], [], [], [], [], [], [], [], [], [429, 431, 25], []]
def ah_X3_change : List (List Nat) := [[], [411, 412], [], [], [], [], [], [], [], [], [], [], [], [], [424, 426, 24], [], [], [83], [], [], [83], [], [], [89], [], [], [], [], []]
def ah_X3_insert : List (List Nat) := [[], [83], [], [], [], [], [], [], [], [], [], [424, 426, 24], [], [], [83], [], [], [83], [], [85], [], [], [], [], [87], [], [], [], [], [89], [], [], [], [], []]
def ah_X3_moveTail : List (List Nat) := [[], [83], [], [], [], [], [85], [], [], [85], [], [], [428, 214, 213, 59], [], [87], [], [], [87], [], [], [428, 214, 213, 59], [], [89], [], [], [89], [], [], [428, 214, 213, 59], []]
def ah_X3_joinAll : List (List Nat) := [[], [], [], [], [83], [], [], [], [85], [], [], [], [87], [], [], [], [], [], [89], [], [], [], [452, 408, 409], [], [], [], [], [], [], []]
def ah_X3_joinProducts : List (List Nat) := [[], [], [], [], [83], [], [], [], [], [], [83], [], [], [89], [], [], [], [89], [], [], [445, 446], [], [], [], [], [], [85], [], [], [], [85], [], [], [451, 366, 367], [], [], [87], [], [], [], [87], [], [], [], [], [], [], [], [], [], [], [], [], [], [], [89], [], [], [], [89], [], [], [], [452, 408, 409], [], [], [], [], [], [], [], [], []]
def ah_X3_fitsProduct : List (List Nat) := [[], [], [], [], [], [448, 449], [415], [], [448, 449], [], [], [], [], [], [], []]
def ah_X4_init : List (List Nat) := [[], [67, 68, 69], [], [], [70], [301], [], [], [72], [302], [], [], [74], [303], [], [74, 76, 55], [], [78, 9999], [304], [], [104, 105, 56], [], [107, 9999], [305], [], [], [], [], [], [], [301], [], [], [], [70, 128, 57], [], [], [130, 129], [], [], [302], [], [], [], [72, 256, 60], [], [], [258, 257], [], [], [], [], [], [], [], [], [], [303], [], [74, 76, 55], [], [78, 9999], [], [], [], []]
def ah_X4_many : List (List Nat) := [[], [321, 322], [], [], [], [], [], [], [], [], [], [], [], [301], [], [], [], [], [219], [], [], [301], [], [], [], [], [324, 325, 326], []]
def ah_X4_partner : List (List Nat) := [[], [], [], [344, 346, 21], [], [], [], [], [], [], [], [], [], [], [], [301], [], [], [], [], [221], [], [], [], [], []]
def ah_X4_about : List (List Nat) := [[], [], [], [344, 346, 21], [], [], [], [], [301], [], [], [], [], [], [], [], [], [], [352, 329, 330], [], [], [], [], [], [], [], [353, 354, 355], [], [], [], [357, 358, 359], [], [], [223], [], [], [], [], [226], [], [], [], [], []]
def ah_X4_stack : List (List Nat) := [[], [], [], [344, 346, 21], [], [], [], [], [344, 346, 21], [], [], [], [], [301], [], [], [], [], [], [], [365, 366, 367], []]
def ah_X4_box : List (List Nat) := [[], [321, 322], [], [], [], [], [301], [], [], [], [], [], [373, 374, 375], []]
def ah_X4_plain : List (List Nat) := [[], [321, 322], [], [], [], [], [301], [], [], [], [], [], [381, 178, 179], []]
def ah_X4_word : List (List Nat) := [[], [], [], [344, 346, 21], [], [], [], [], [], [], [301], [], [], [], [], [], [], [386, 387, 388], []]
def ah_X4_clear : List (List Nat) := [[], [394, 395], [], [], [321, 322], [], [], [], [], [303], [], [], [84], [], [], [303], [], [], [], [397, 398, 399], [], []]
def ah_X4_add : List (List Nat) := [[], [394, 395], [], [], [], [303], [], [], [82], [], [344, 346, 21], [], [], [], [], [], [], [], [], [], [405], [], [], [], [406], [], [], [], [], [], [303], [], [], [], [], [], [407, 408, 409], [], [], [303], [], [], [84], [], [], []]
def ah_X4_work : List (List Nat) := [[], [394, 395], [], [], [], [], [], [], [], [394, 395], [], [], [394, 395], [], [], [], [], [303], [], [], [82], [], [303], [], [], [82], [], [], [], [], [], [], [303], [], [], [], [303], [], [], [437, 439, 26], [], [], [], [], [303], [], [], [], [304], [457, 458, 459], [], [304], [84], []]
def ah_X4_sum : List (List Nat) := [[], [394, 395], [], [], [], [], [], [], [], [], [], [], [], [303], [], [], [82], [], [], [303], [], [], [84], []]
def ah_X4_term : List (List Nat) := [[], [394, 395], [], [], [], [], [], [], [], [], [469], [], [], [303], [], [], [], [], [], [84], [], [470], [], [], [], [], [], [90], [], [], [], [], [], [], [86], [], [], [], [], [], [88], [], [], [], []]
def ah_X4_same : List (List Nat) := [[], [394, 395], [], [], [394, 395], [], [], [], [], [303], [], [], [], [303], [], [], [475, 476, 477], [], [], [], [], []]
def ah_X4_closed : List (List Nat) := [[], [394, 395], [], [], [], [], [], [], [], [], [], [303], [], [], [], [], [301], [], [82], [], [], [], [223], [], [], [], [], [], [], [], [84], [], [], [88], [], [], [], [], [86], [], [], [], [], [], [], [], [], [90], [], [], [], [], [], [], [], []]
def ah_X4_halves : List (List Nat) := [[], [], [487, 488], [], [], [], [], [302], [], [], [], [], [], [490, 491, 492], []]
def ah_X4_half : List (List Nat) := [[], [], [487, 488], [], [], [], [], [], [], [], [], [], [302], [], [], [], [], [], [], [498, 499, 500], [], [], [], [], [], [], [302], [], [], [], [], [280], [], [], [], [], []]
def ah_X4_form : List (List Nat) := [[], [], [487, 488], [], [], [], [], [302], [], [], [], [], [], [], [498, 499, 500], [], [], [302], [], [], [], [], [], [], [498, 499, 500], [], [], [], [], [], [], [], [], [302], [], [], [], [], [], [], [506, 507, 508], []]
def ah_X4_free : List (List Nat) := [[], [], [487, 488], [], [], [], [], [], [], [], [], [522, 523], [], [], [], [], [302], [], [], [], [], [], [], [], [525, 526, 527], []]
def ah_X4_row : List (List Nat) := [[], [], [], [], [], [], [], [], [], [305], [], [556, 557, 558], [], []]
def ah_X4_cross : List (List Nat) := [[], [305], [], [564, 565, 566], [], [], [], [], [305], [], [568, 569, 570], [], [], [305], [113], [], [], []]
def ah_X4_back : List (List Nat) := [[], [305], [576, 577, 578], [], [], [305], [113], [], [], []]
def ah_X4_power : List (List Nat) := [[], [], [], [], [], [], [584], [], [], [305], [], [], [301], [], [305], [111], [], [], [], [585, 586, 587], []]
def ah_X4_isStrands : List (List Nat) := [[], [], [], [], [], [], [], [], [], []]
def ah_X4_isSum : List (List Nat) := [[], [], [], [], [], [], [], [], []]
def ah_X4_isThrough : List (List Nat) := [[], [321, 322], [], [], [], [], [], [], [], [], [], []]
def ah_X4_isBox : List (List Nat) := [[], [321, 322], [], [], [], [], [], [301], [], [], [], [], [219], [], [], [], [], []]
def ah_X4_isPrime : List (List Nat) := [[], [], [], [], [], [], [], [], [], [], [], [], [], [], [], [], [], [], [], [], [], [], [], [], []]
def ah_X4_make : List (List Nat) := [[], [304], [], [82], [397, 398, 399], [], [], [], [], [304], [], [], [], [301], [], [82], [], [], [], [441, 442, 443], [], [], [304], [], [], [453, 454, 455], [], [], [304], [], [], [], [], [], [], [453, 454, 455], [], [], [], [], []]
def ah_X5_init : List (List Nat) := [[], [606, 68, 69], [], [], [102], [647], [], [], [102], [648], [], [], [102], [649], [], [], [102], [650], [], [], [102], [651], [], [], [102], [652], [], [], [102], [653], [], [], [102], [654], [], [], [103], [655], [], [], [656], [], [], [102], [658], [], [], [255], [659], [], [], [102], [660], [], [], [255], [661], [], [], [102], [663], [], [], [102], [665], [], [], [102], [666], [], [], [103], [667], [], [], [102], [668], [], [], [102], [669], [], [], [102], [670], [], [], [102], [671], [], [], [102], [672], [], [], [102], [673], [], [], [], [], [], [], [651], [], [], [], [], [], [], [], [], [], [], [], [], [], [], [607, 608], [], [], [], [], [610, 612, 35], [], [], [], [], [], [], [], [], [], [], [], [620, 622, 36], [], [], []]
def ah_X5_in : List (List Nat) := [[], [], [], [], [], [], [], [], [], [], [], []]
def ah_X5_isWide : List (List Nat) := [[], [], [], [736], [635, 636], []]
def ah_X5_boxes : List (List Nat) := [[], [], [], [], [], [], [], [], [], [], [], [], [], [], [], [], []]
def ah_X5_first : List (List Nat) := [[], [], [], [], [], [], [], [], [], [], [], [], [], [], [], [], []]
def ah_X5_isBox : List (List Nat) := [[], [733, 734], [], [], [], [], [], [607, 608], [], [], [], [635, 636], [], [], [], [], []]
def ah_X5_at : List (List Nat) := [[], [], [617, 618], [], [], [], []]
def ah_X5_decode : List (List Nat) := [[], [], [], [], [], [], [659], [], [], [], [], [], [], [], [], [607, 608], [], [], [], [], [], [], [], [], [], [], [], [], [], [], [], [], [], [], [], [], [], [], [], [], [659], [], [], [], [], [], [], [659], [], [], [], [], [], [], [], [], [659], [], [], [], [], [], [], [], [659], [], [], [], [], [], [], [], [], [], [], [], [659], [], [], [], [], [647], [], [], [614, 615], [], [], [], [], [], [647], [], [], [614, 615], [], [], [], [], [], [], []]
def ah_X5_numberOf : List (List Nat) := [[], [], [], [], [607, 608], [], [], [], [], [], [], [], [], [], [], [], [], [], [647], [], [], [614, 615], [], [], [], [], [660], [], [], [], [], [], [], [], [], [], [], [], [], [], [], [], [], []]
def ah_X5_lead : List (List Nat) := [[], [], [], [], [], [], [], [], [], [], [647], [], [], [], [], [], [], [], [], [], [], [], [], [], [], [], [], [], [], [], [], [], [], [], [], [], [], [], [], [], [], [], [], [], [], [], [], [], [], [661], [], [], [], [], [], [], [], [], [], [], [], [], [], [], [], [], [], []]
def ah_X5_stacked : List (List Nat) := [[], [], [614, 615], [], [], [], [614, 615], [], [], [], [], [], [], [], [661], [], [], [], [], [], [], [], [], [], [], [], [], [], [660], [], [], [], [], [], [], [643, 645, 40], [], [], [], [], [], [662], [], [], [], [], [], [], [661], [], [], [], [], [], [662], [], [], [662], [], [], [], [], [], [], [], [661], [], [], [], [], [647], [], [], [], [], [], [], [661], [], [], [], [], [647], [], [], [], [], [], [], [], [], [], [], [], [], [], [], [], [], [], [], [], [], [], [628, 630, 38], []]
def ah_X5_ringsClosed : List (List Nat) := [[], [], [614, 615], [], [], [], [], [], [], [], [661], [], [], [], [], [], [], [], [], [], [], [], [], [], [661], [], [], [], [], [], [], [], [], [], [], [], [661], [], [], [], [], [], [], [647], [], [], [], [], [], [], [661], [], [], [], [], [], [], [], [], [], [], [], [], [], [], [], [], [], [], [], [], [], [], [], [], [], [], [], []]
def ah_X5_isLetter : List (List Nat) := [[], [], [], [], [], [], [], [635, 636], [], [], [], [638], [], [], [], [], [635, 636], [], [], [], [], []]
def ah_X5_plainBox : List (List Nat) := [[], [], [], [], [], [], [660], [], [], [], [], [], [], [660], [], [], [], [], [], [], [], [], [], [], [], [], [], [], [], [], [], [], [], [], [], [660], [], [], [], [], [], [], [], [], [], [], [], [], [660], [], [], [], [], [], [], [], [], [], [], [], [], [], [], [660], [], [], [], [], [], [], [], [], [], [], [], [], [], [], [660], [], [], [], [], [], [], [], [], [], [], [], [], [], [], [], [], [], [628, 630, 38], []]
def ah_X5_findWords : List (List Nat) := [[], [617, 618], [], [], [], [], [], [607, 608], [], [], [650], [], [], [], [], [], [], [], [], [], [], [624, 626, 37], [], [], [650], [], [], [], [], [], [], [663], [], [], [], [], [], [], [], [], [], [], [], [663], [], [], [], [], [], [], [], [], [], [], [], [], [632, 633], [], [], [], [], [624, 626, 37], [], [], [], [], [], [639, 641, 39], [], [], [662], [], [], [650], [], [], [], [], [], [], [], [650], [], [], [], [], [650], [], [], [], [], [], [], [], [], [648], [], [], [], [], [], [], [649], [], [], [], [], [], [], [663], [], [], [], [], [], [], [], [], []]
def ah_X5_isPlane : List (List Nat) := [[], [], [614, 615], [], [], [], [], [], [], [], [], [], [], [], [], [], [], [], [], [], [], [], [741, 742], [], [], [], [647], [], [], [], [], [741, 742], [], [], [], [741, 742], [], [], [], [647], [], [], [], [], [741, 742], [], [], [], [], [], [], [], [], [], [], [], [], [], [], [], [], [], [], [], [], [], []]
def ah_X5_round : List (List Nat) := [[], [], [], [], [], [], [], [], [], [], [], [], []]
def ah_X5_many : List (List Nat) := [[], [733, 734], [], [], [], [], [], [635, 636], [], [], [], [], [], [], [], [], [], [607, 608], [], [], [], [], [], [], [], [737, 739, 41], [], [], [], [], [], [], [], [], [], []]
def ah_X5_partner : List (List Nat) := [[], [], [748, 749], [], [], [], [], [], [], [], [], [], [], [635, 636], [], [], [647], [], [], [614, 615], [], [], [], [], [], []]
def ah_X5_through : List (List Nat) := [[], [], [], [], [], [], [], [], [], [647], [], [], [614, 615], [], [], [], [], [], [], [], [], [], [], [], [], [], []]
def ah_X5_upsideDown : List (List Nat) := [[], [], [], [], [], [], [], [], [647], [], [], [614, 615], [], [], [], [], [], [660], [], [], [], [], [], [], [], [], [], [], [], [], [], [], [], [], [], [], [], [], [], [], [], [], [], [628, 630, 38], []]
def ah_X5_about : List (List Nat) := [[], [], [748, 749], [], [], [], [], [736], [635, 636], [], [], [], [], [], [], [], [], [737, 739, 41], [], [], [], [], [], [], [], [], [755, 757, 42], [], [], [], [], [759, 761, 43], [], [], [], [], [763, 765, 44], [], [], [650], [], [617, 618], [], [], [], []]
def ah_X5_stack : List (List Nat) := [[], [], [748, 749], [], [], [], [748, 749], [], [], [], [], [], [], [], [639, 641, 39], [], [], [], [], [662], [], [], []]
def ah_X5_box : List (List Nat) := [[], [733, 734], [], [], [], [], [], [], [], [], [], [], [], [], [], [], [], [], [], [], [], [], [660], [], [], [], [], [], [], [], [], [], [], [], [], [], [], [], [775], [], [], [], [], [], [], [], [], [], [], [775], [], [], [], [], [], [], [], [], [], [], [], [], [], [], [], [], [], [660], [], [], [], [], [], [660], [], [], [], [], [], [], [], [660], [], [], [], [], [660], [], [], [], [], [], [], [], [628, 630, 38], []]
def ah_X5_plain : List (List Nat) := [[], [733, 734], [], [], [], [], [], [632, 633], [], [], [], [], [], [], [624, 626, 37], []]
def ah_X5_word : List (List Nat) := [[], [], [748, 749], [], [], [], [], [], [], [617, 618], [], [], [650], [], [], [], [], [], [], [], [], [], [], [], [], [], [], [], [], [], [], [], [], [649], [], [], [], [], [], [], [], [], [648], [], [], [], [], []]
def ah_X5_isSum : List (List Nat) := [[], [], [], [791], [635, 636], []]
def ah_X5_load : List (List Nat) := [[], [], [652], [], [], [664], [], [], [], [], [664], [], [], [665], [], [], [653], [], [], [], [], [], [], [], [], [666], [], [], [654], [], [], [], [], [], [], [], [], [667], [], [], [655], [], [], [], [], [], [], [], [], [], []]
def ah_X5_store : List (List Nat) := [[], [651], [], [], [], [], [652], [], [], [664], [], [], [], [], [], [664], [], [], [653], [], [], [], [], [], [], [665], [], [], [], [], [654], [], [], [], [], [], [], [666], [], [], [], [], [655], [], [], [], [], [], [], [667], [], [], [], [], [], [], [664], []]
def ah_X5_move : List (List Nat) := [[], [665], [], [], [665], [], [], [], [], [666], [], [], [666], [], [], [], [], [667], [], [], [667], [], [], [], []]
def ah_X5_comes : List (List Nat) := [[], [], [], [], [], [], [], [], [], [], [811], [812], [635, 636], [], [], [], [], [], [], [], [664], [], [], [665], [], [], [], [], [], [665], [], [], [], [], [], [666], [], [], [], [], [], [], [], [], [664], [], [], [665], [], [], [], [], [], [666], [], [], [], [], [], [667], [], [], [], [], [], [], [], [667], [], [], [], [], [], [], [], [664], [], [], [664], [], [], [], [], [664], [], [], [], [], [], [], [813, 815, 48], [], [], [], [], [], [667], [], [], [811], [812], [635, 636], [], [], [664], [], [], [], [], [], [664], [], [], [], [], [], [], [], [], [], [813, 815, 48], [], [], [], [665], [], [], [], [], [666], [], [], [], [], [667], [], [], [], [], [], [664], [], [], [664], [], []]
def ah_X5_clear : List (List Nat) := [[], [788, 789], [], [], [733, 734], [], [], [], [], [652], [], [], [], [], [], [664], [], [], [], [792, 794, 45], [], [], []]
def ah_X5_add : List (List Nat) := [[], [788, 789], [], [], [651], [], [], [], [748, 749], [], [], [], [], [800], [635, 636], [], [], [801], [802], [635, 636], [], [], [], [], [], [803, 805, 46], [], [], [], [], [807, 809, 47], [], [], [], [], [651], [], [], [792, 794, 45], [], [], []]
def ah_X5_work : List (List Nat) := [[], [788, 789], [], [], [], [], [821], [635, 636], [], [], [788, 789], [], [], [788, 789], [], [], [], [], [651], [], [], [], [651], [], [], [], [], [], [], [651], [], [], [], [], [], [], [], [], [], [], [803, 805, 46], [], [], [], [], [652], [], [], [], [], [], [], [655], [], [], [], [], [], [], [], [], [], [653], [], [], [], [], [], [], [], [654], [], [], [], [], [], [], [], [], [], [], [], [], [807, 809, 47], [], [], [], [], [], [], [], [], [792, 794, 45], [], [], [], [], [], [664], [], [], [], [], [652], [], [], [], [], [], [], [], [], [], [652], [], [], [], [], [], [], [655], [], [], [], [], [], [], [], [], [655], [], [], [], [], [], [], [], [812], [], [], [], [], [], [], [], [], [], [], [], [], [], [653], [], [], [], [], [], [], [], [653], [], [], [], [], [], [], [639, 641, 39], [], [], [654], [], [], [], [], [], [], [], [654], [], [], [], [], [], [], [], [], [662], [], [], [], [], [], [], [635, 636], [], [], [], [], [], [], [], [807, 809, 47], [], [], [], [], [], [], [], [], [], [], [], [], [], [], [792, 794, 45], [], [], []]
def ah_X5_sum : List (List Nat) := [[], [788, 789], [], [], [], [], [], [635, 636], [], [], [], [], [], [], [651], [], [], [], [], [652], [], [], []]
def ah_X5_term : List (List Nat) := [[], [788, 789], [], [], [], [], [], [], [821], [635, 636], [], [830], [], [], [], [], [], [], [], [], [], [652], [], [], [], [831], [], [], [], [], [653], [], [], [], [], [], [], [], [], [654], [], [], [], [], [], [655], [], [], []]
def ah_X5_same : List (List Nat) := [[], [788, 789], [], [], [788, 789], [], [], [], [], [651], [], [], [], [651], [], [], [], [], [652], [], [], [], [652], [], [], [], [], [], [], [], [], [], [], [], [652], [], [], [], [], [], [], [653], [], [], [], [], [], [], [], [653], [], [], [], [], [], [], [], [], [654], [], [], [], [], [], [], [], [654], [], [], [], [], [], [], [], [], [655], [], [], [], [], [], [], [], [655], [], [], [], [], [], [], [], [], [], [], [], [], [], [], [], [], [], [], [], []]
def ah_X5_closed : List (List Nat) := [[], [788, 789], [], [], [], [], [840], [635, 636], [], [], [], [], [], [], [], [], [], [652], [], [], [], [], [654], [], [], [], [], [], [], [], [], [651], [], [], [], [653], [], [], [], [], [], [], [763, 765, 44], [], [], [], [], [], [], [], [655], [], [], [], [], [], [], [], [], [], [], [], [], [], []]
def ah_X5_isHalf : List (List Nat) := [[], [], [], [], [], [], [], [], [], [], [], [], [], [], [], [], [], [], [], [], [], [], [], [], [], [], [], [], [], [], [], [], [], [], [], [], [], [], [], [], [], [], [], [], [], [], [], [], [], [], [], [], [], [], [], [], [], [], [], [], [], [], [], [], [], [], [], [], [], [], [], [], [], [], [], [], [], [], [], [], [], []]
def ah_X5_lay : List (List Nat) := [[], [], [], [], [], [], [], [], [], [], [], [], [], [], [], [], [], [], [], [], [], [], [], [], [], [], [], [], [], [], [], [], [], [], [], [], [], [], [], [], [], [], [], [], [], [], [], [], [], [852, 853], [], [], [], [], [], [], [], [], [], [], []]
def ah_X5_areHalves : List (List Nat) := [[], [733, 734], [], [], [], [], [], [], [635, 636], [], [], [], [], []]
def ah_X5_halves : List (List Nat) := [[], [], [845, 846], [], [], [], [], [], [], [668], [848, 850, 49], [], [], []]
def ah_X5_half : List (List Nat) := [[], [], [845, 846], [], [], [], [], [], [], [], [], [], [], [635, 636], [], [], [], [], [], [], [], [], [], [668], [848, 850, 49], [], [], [], [], [], [], [], [], [668], [848, 850, 49], [], [], [668], [], [], []]
def ah_X5_formOf : List (List Nat) := [[], [], [], [], [], [], [661], [], [], [], [], [], [], [], [], [], [], [], [668], [], [], [], [], [], [], [], [], [], [], [], [], [], [661], [], [], [], [], [], [], [669], [], [], [], [], [668], [], [], [], [], [], [], [], [], [], [], [], [], [], [], [], [], [], [], [], [], [], [], [661], [], [], [], [], [], [], [], [], [], [], [], [], [], [], [], [661], [], [], [], [], [669], [], [], [], [], [], [], [], [], [], [], [], [], [], [], [], [], [661], [], [], [], [], [], [], [], [], [], [], [], [661], [], [], [], [], [668], [], [], [], [], [661], [], [], [], [], [669], [], [], [], [], [], [], [], [], [], [], [], [], [], [], []]
def ah_X5_form : List (List Nat) := [[], [], [845, 846], [], [], [], [], [], [], [], [], [668], [848, 850, 49], [], [], [], [], [], [], [], [], [635, 636], [], [], [], [], [], [], [], [], [635, 636], [], [], [], [], [], [], [], [], [668], [848, 850, 49], [], [], [], [], [], [], [669], [848, 850, 49], [], [], [], [863, 865, 50], []]
def ah_X5_isPrime : List (List Nat) := [[], [], [], [], [], [], [], [], [], [], [], [], [], [], [], [], [], [], [], [], [], [], [], [], [], [], [], []]
def ah_X5_inverse : List (List Nat) := [[], [], [], [], [], [], [], [], [], [], [], [], []]
def ah_X5_free : List (List Nat) := [[], [], [845, 846], [], [], [], [871], [872], [635, 636], [], [], [], [821], [873], [635, 636], [], [], [874, 875], [], [], [], [], [], [], [], [], [668], [848, 850, 49], [], [], [], [], [], [], [], [], [], [], [], [], [], [], [], [], [], [], [], [], [], [], [], [], [877, 860, 861], [], [], [], [], [], [], [], [], [], [], [], [], [], [], [], [], [], [], [], [], [], [], [], [], [670], [], [], [], [], [], [], [], [], [], [], [], [], [], [], [], [], [], [], [], [], [], [], [], [], [670], [], [], [], [], [], [], [], [], [], [], [], [], [], [], [], [], [], [], [878, 880, 51], [], [], [], [], []]
def ah_X5_reduce : List (List Nat) := [[], [], [], [], [], [], [670], [], [], [], [], [], [], [], [], [670], [], [], [], [], [], [], [670], [], [], [], [], [], [], [], [], [670], [], [], [], [], [], [], [], [], [], [], [670], [], [], [], [], [], [], [], [882, 883], [], [], [], [], [], [], [], [], [], [670], [], [], [], [], [], [], [], [], [], [], [], [], [], [], [], [], [], [670], [], [], [], [], [], [], [670], [], [], [], [], [], [], [], [], [], [], [670], [], [], [], [], [], [], [], [], [], [], [], [], [], [], [], []]
def ah_X5_row : List (List Nat) := [[], [], [821], [736], [635, 636], [], [], [], [], [], [656], [], [], [657], [], []]
def ah_X5_cross : List (List Nat) := [[], [], [], [], [], [], [], [], [], [], [], [656], [], [], [], [635, 636], [], [], [], [], [657], [], [], [], [], [], [658], [], [657], [], [], [], [], [657], [], [], [657], [], [657], []]
def ah_X5_back : List (List Nat) := [[], [657], [], [], [], [], [], [657], [], [], [657], [], [657], []]
def ah_X5_addState : List (List Nat) := [[], [656], [], [], [], [], [624, 626, 37], [], [], [], [], [], [], [], [], [], [657], [], [], [], [], [], [], [], [], [], [], [], [], [], [658], [], [], [], [], [658], [], [], [], [], [], [658], [], [], [], [], [], [], [658], [], [], [], [], [], [], [], [], [], [], [], [], [], [], [], [], [], [624, 626, 37], [], [], [], [], [], [639, 641, 39], [], [], [], [662], [], [], [], [], [], [], [], [], [763, 765, 44], [], [], [], [], [], [], [], [], [672], [], [], [], [], [], [], [], [], [], [], [], [], [], [], [], [], [], [], [], [], [], [], [], [], [], [], [672], [], [], [], [], [], [], [], [], [], [], [], [], [], [672], [], [], [], [], [], [], [], [], [673], [], [], [], [], [], [], [], [], [], [], [], [], [], [], [672], [], [], [673], [], [], [], [], [], [], [], [], [], [], [], [], [], [671], [], [], [], [], [672], [], [], [], [], [], [], []]
def ah_X5_power : List (List Nat) := [[], [], [901], [902], [635, 636], [], [903], [], [], [], [], [], [], [], [671], [], [], [], [], [], [], [], [], [], [], [657], [], [], [], [], [904, 906, 52], [], [], [], [671], [], [], [], [], []]
def ah_J9_floorMod_7cf53 : List (List Nat) := [[], [], [], [], [], [], [], [], [], [], [], [], [], [], [], []]
def ah_J9_abs_0f7a4 : List (List Nat) := [[], [], [], [], [], [], []]
def ah_J9_abs_067f4 : List (List Nat) := [[], [], [], [], [], [], [], [], []]
def ah_J9_min_7cf53 : List (List Nat) := [[], [], [], [], [], [], []]
def ax_H : List (List (List Nat)) := [ah_X0_init, ah_X0_countPairings, ah_X0_listPairings, ah_X0_pairBy, ah_X0_freeBehind, ah_X0_countUp, ah_X0_numberOf, ah_X0_countPlane, ah_X0_isPlane, ah_X0_isBetween, ah_X0_placeRound, ah_X0_countThrough, ah_X0_upsideDown, ah_X0_across, ah_X0_closeRings, ah_X0_forgetSeen, ah_X0_stackLetters, ah_X0_letterAt, ah_X0_isLetter, ah_X0_ofLetter, ah_X0_pair, ah_X0_ofPairs, ah_X0_join, ah_X0_follow, ah_X0_countInnerRings, ah_X0_spellAll, ah_X0_spellBehind, ah_X0_letterOf, ah_X0_stackOn, ah_X1_init, ah_X1_begin, ah_X1_allows, ah_X1_append, ah_X1_dropLast, ah_X1_wholeAt, ah_X1_addStates, ah_X1_addState, ah_X2_init, ah_X2_nextDraft, ah_X2_keepDraft, ah_X2_isHalf, ah_X2_keepsWithin, ah_X2_countLeaving, ah_X2_find, ah_X2_lay, ah_X2_leadsOut, ah_X2_goRound, ah_X2_rank, ah_X2_fillTable, ah_X2_fillRow, ah_X2_raise, ah_X2_swapRows, ah_X2_clearBelow, ah_X3_init, ah_X3_begin, ah_X3_take, ah_X3_isLike, ah_X3_isAt, ah_X3_isFactor, ah_X3_join, ah_X3_change, ah_X3_insert, ah_X3_moveTail, ah_X3_joinAll, ah_X3_joinProducts, ah_X3_fitsProduct, ah_X4_init, ah_X4_many, ah_X4_partner, ah_X4_about, ah_X4_stack, ah_X4_box, ah_X4_plain, ah_X4_word, ah_X4_clear, ah_X4_add, ah_X4_work, ah_X4_sum, ah_X4_term, ah_X4_same, ah_X4_closed, ah_X4_halves, ah_X4_half, ah_X4_form, ah_X4_free, ah_X4_row, ah_X4_cross, ah_X4_back, ah_X4_power, ah_X4_isStrands, ah_X4_isSum, ah_X4_isThrough, ah_X4_isBox, ah_X4_isPrime, ah_X4_make, ah_X5_init, ah_X5_in, ah_X5_isWide, ah_X5_boxes, ah_X5_first, ah_X5_isBox, ah_X5_at, ah_X5_decode, ah_X5_numberOf, ah_X5_lead, ah_X5_stacked, ah_X5_ringsClosed, ah_X5_isLetter, ah_X5_plainBox, ah_X5_findWords, ah_X5_isPlane, ah_X5_round, ah_X5_many, ah_X5_partner, ah_X5_through, ah_X5_upsideDown, ah_X5_about, ah_X5_stack, ah_X5_box, ah_X5_plain, ah_X5_word, ah_X5_isSum, ah_X5_load, ah_X5_store, ah_X5_move, ah_X5_comes, ah_X5_clear, ah_X5_add, ah_X5_work, ah_X5_sum, ah_X5_term, ah_X5_same, ah_X5_closed, ah_X5_isHalf, ah_X5_lay, ah_X5_areHalves, ah_X5_halves, ah_X5_half, ah_X5_formOf, ah_X5_form, ah_X5_isPrime, ah_X5_inverse, ah_X5_free, ah_X5_reduce, ah_X5_row, ah_X5_cross, ah_X5_back, ah_X5_addState, ah_X5_power, ah_J9_floorMod_7cf53, ah_J9_abs_0f7a4, ah_J9_abs_067f4, ah_J9_min_7cf53]
end
section
/-! The tables' check, as a computation, and what it says. -/
def am_Tb : List Cond := lw_tbl.filter goodWord
def ck_w (hs : List Nat) (i : Nat) (w : Cond) : Bool := (match hs[i]? with
  | some k => decide (lw_tbl[k]? = some w)
  | none => false) && goodWord w
theorem ck_w_ok {hs : List Nat} {i : Nat} {w : Cond} (h : ck_w hs i w = true) : w ∈ am_Tb := by
  unfold ck_w at h
  rw [Bool.and_eq_true] at h
  obtain ⟨h1, h2⟩ := h
  split at h1
  · rename_i k hk
    exact List.mem_filter.mpr ⟨List.mem_of_getElem? (of_decide_eq_true h1), h2⟩
  · cases h1
theorem am_Tb_good : ∀ w ∈ am_Tb, (w.onTables && w.keeps) = true ∨ ∃ ty, w = .arrayClass ty := fun w hw => good_of_word (List.mem_filter.mp hw).2
def am_tyf (x : Nat) : Nat → FieldType := [tyX0, tyX1, tyX2, tyX3, tyX4].getD x tyX5
def ck_32 (n : Int) : Bool := decide (-2147483648 ≤ n) && decide (n < 2147483648)
theorem ck_32_ok {n : Int} (h : ck_32 n = true) : am_r32 n := by
  unfold ck_32 at h
  simp only [Bool.and_eq_true, decide_eq_true_eq] at h
  exact h
def ck_64 (n : Int) : Bool := decide (-9223372036854775808 ≤ n) && decide (n < 9223372036854775808)
theorem ck_64_ok {n : Int} (h : ck_64 n = true) : am_r64 n := by
  unfold ck_64 at h
  simp only [Bool.and_eq_true, decide_eq_true_eq] at h
  exact h
def ck_cls (x : Nat) (f : String → u_T → Nat → Bool) : Bool := match vwCl[x]? with
  | some (C, T, N) => f C T N
  | none => false
theorem ck_cls_ok {x : Nat} {f : String → u_T → Nat → Bool} (h : ck_cls x f = true) : ∃ C T N, vwCl[x]? = some (C, T, N) ∧ f C T N = true := by
  unfold ck_cls at h
  split at h
  · rename_i C T N e
    exact ⟨C, T, N, e, h⟩
  · cases h
def ck_rk (own : String) (ini : Bool) (fr lo : Nat) (pc : Nat) (row : am_I) (hs : List Nat) : Bool := match row with
  | (.iconst n, len, _, _) => len == 1 && ck_32 n
  | (.bipush n, len, _, _) => len == 2 && (ck_32 n && decide ((Int8.ofInt n).toInt32 = Int32.ofInt n))
  | (.sipush n, len, _, _) => len == 3 && (ck_32 n && decide ((Int16.ofInt n).toInt32 = Int32.ofInt n))
  | (.lconst _, len, _, _) => len == 1
  | (.ldc i, len, x, y) => len == 2 && (ck_32 (am_cst x y) && ck_w hs 0 (.constant own i (Int32.ofInt (am_cst x y))))
  | (.ldc2_w i, len, x, y) => len == 3 && (ck_64 (am_cst x y) && ck_w hs 0 (.constantLong own i (Int64.ofInt (am_cst x y))))
  | (.iload_n _, len, _, _) => len == 1
  | (.iload _, len, _, _) => len == 2
  | (.lload_n _, len, _, _) => len == 1
  | (.lload _, len, _, _) => len == 2
  | (.aload_n _, len, _, _) => len == 1
  | (.aload _, len, _, _) => len == 2
  | (.istore_n _, len, _, _) => len == 1
  | (.istore _, len, _, _) => len == 2
  | (.lstore_n _, len, _, _) => len == 1
  | (.lstore _, len, _, _) => len == 2
  | (.astore_n _, len, _, _) => len == 1
  | (.astore _, len, _, _) => len == 2
  | (.iinc _ _, len, _, _) => len == 3
  | (.ifCond _ off, len, x, _) => len == 3 && decide ((pc : Int) + off = (x : Int))
  | (.if_icmp _ off, len, x, _) => len == 3 && decide ((pc : Int) + off = (x : Int))
  | (.goto off, len, x, _) => len == 3 && decide ((pc : Int) + off = (x : Int))
  | (.tableswitch d _ _ offs, _, _, _) => decide (0 ≤ (pc : Int) + d) && offs.toList.all (fun o => decide (0 ≤ (pc : Int) + o))
  | (.getfield i, len, x, y) => len == 3 && ck_cls x (fun _ T N => decide (y < N) && ck_w hs 0 (.fieldLink own i (T y).1 (T y).2.1 (T y).2.2.1))
  | (.putfield i, len, x, y) => len == 3 && ck_cls x (fun _ T N => decide (y < N) && (ck_w hs 0 (.fieldLink own i (T y).1 (T y).2.1 (T y).2.2.1) && (am_tk (ac_ft x y) (am_tyf x y) && (!(T y).2.2.2 || ((T y).2.2.2 && (ini && decide ((T y).1 = own)))))))
  | (.new i, len, x, y) => len == 3 && ck_cls x (fun C _ N => N == y && (ck_w hs 0 (.classLink own i C) && (ck_w hs 1 (.instantiable C y) && ck_w hs 2 (.initialized C))))
  | (.newarray at9, len, x, _) => len == 2 && (decide (newarray.typeOf at9 = am_ty x) && ck_w hs 0 (.arrayClass (newarray.typeOf at9)))
  | (.anewarray i, len, x, _) => len == 3 && (match am_ty x with
    | .object C => ck_w hs 0 (.classLink own i C)
    | _ => false)
  | (.multianewarray i d, len, _, _) => len == 4 && (d == 2 && (ck_w hs 0 (.classLink own i ("[" ++ (FieldType.array .int).toString)) && ck_w hs 1 (.arrayClass .int)))
  | (.invokevirtual _, len, x, _) => len == 3 && (x != 900 && x != 901)
  | (.invokestatic i, len, x, _) => len == 3 && (x != 900 && (x != 901 || (ck_w hs 0 (.methodLink own i arraycopyName) && (ck_w hs 1 (.native arraycopyName) && (ck_w hs 2 (.static arraycopyName) && (ck_w hs 3 (.initialized "java/lang/System") && (decide (1 ≤ fr) && decide (nativeFrameWords "java/lang/System" "arraycopy" 5 + 11 ≤ lo))))))))
  | (.invokespecial i, len, x, _) => len == 3 && (x != 901 && (x != 900 || (ck_w hs 0 (.methodLink own i Lib.objectInit) && (ck_w hs 1 (.instanceMethod Lib.objectInit) && (ck_w hs 2 (.code Lib.objectInit ⟨#[0xb1]⟩ 1 none) && (decide (1 ≤ fr) && decide (12 ≤ lo)))))))
  | (.iadd, len, _, _) => len == 1
  | (.isub, len, _, _) => len == 1
  | (.imul, len, _, _) => len == 1
  | (.idiv, len, _, _) => len == 1
  | (.irem, len, _, _) => len == 1
  | (.ineg, len, _, _) => len == 1
  | (.iand, len, _, _) => len == 1
  | (.ixor, len, _, _) => len == 1
  | (.ishl, len, _, _) => len == 1
  | (.ishr, len, _, _) => len == 1
  | (.ladd, len, _, _) => len == 1
  | (.lmul, len, _, _) => len == 1
  | (.ldiv, len, _, _) => len == 1
  | (.lneg, len, _, _) => len == 1
  | (.land, len, _, _) => len == 1
  | (.lor, len, _, _) => len == 1
  | (.lshl, len, _, _) => len == 1
  | (.lshr, len, _, _) => len == 1
  | (.lushr, len, _, _) => len == 1
  | (.lcmp, len, _, _) => len == 1
  | (.i2l, len, _, _) => len == 1
  | (.l2i, len, _, _) => len == 1
  | (.iaload, len, _, _) => len == 1
  | (.baload, len, _, _) => len == 1
  | (.laload, len, _, _) => len == 1
  | (.aaload, len, _, _) => len == 1
  | (.iastore, len, _, _) => len == 1
  | (.bastore, len, _, _) => len == 1
  | (.lastore, len, _, _) => len == 1
  | (.aastore, len, _, _) => len == 1
  | (.arraylength, len, _, _) => len == 1
  | (.dup, len, _, _) => len == 1
  | (.dup2, len, _, _) => len == 1
  | (.pop, len, _, _) => len == 1
  | (.pop2, len, _, _) => len == 1
  | (.ireturn, len, _, _) => len == 1
  | (.lreturn, len, _, _) => len == 1
  | (.return_, len, _, _) => len == 1
  | _ => false
/-- what is said of each class once -/
def am_cl6 : Prop := ∀ (x : Nat) (C : String) (T : u_T) (N : Nat), vwCl[x]? = some (C, T, N) → (∀ w ∈ u_ws C T N, w ∈ am_Tb) ∧ (∀ k, k < N → parseFieldDescriptor (T k).2.2.1 = some (am_tyf x k)) ∧ (∀ a, a < N → ∀ b, b < N → a ≠ b → (T a).2.1 ≠ (T b).2.1) ∧ (∀ k, k < N → am_tk (ac_ft x k) (am_tyf x k) = true)
set_option maxHeartbeats 4000000 in
theorem ck_rk_ok (hcl : am_cl6) {own : String} {ini : Bool} {fr lo pc : Nat} {row : am_I} {hs : List Nat} (hc : ck_rk own ini fr lo pc row hs = true) : ∀ mc ms : Nat, am_rk ac_ft own (ini = true) am_Tb { frames := fr, cells := mc, slots := ms, locals := lo } pc row := by
  obtain ⟨ins, len, x, y⟩ := row
  cases ins
  case iconst n =>
    have hc := (Bool.and_eq_true _ _ ▸ hc : (len == 1) = true ∧ ck_32 n = true)
    exact fun mc ms => ⟨eq_of_beq hc.1, ck_32_ok hc.2⟩
  case bipush n =>
    have hc : (len == 2 && (ck_32 n && decide ((Int8.ofInt n).toInt32 = Int32.ofInt n))) = true := hc
    simp only [Bool.and_eq_true, decide_eq_true_eq] at hc
    exact fun mc ms => ⟨eq_of_beq hc.1, ck_32_ok hc.2.1, hc.2.2⟩
  case sipush n =>
    have hc : (len == 3 && (ck_32 n && decide ((Int16.ofInt n).toInt32 = Int32.ofInt n))) = true := hc
    simp only [Bool.and_eq_true, decide_eq_true_eq] at hc
    exact fun mc ms => ⟨eq_of_beq hc.1, ck_32_ok hc.2.1, hc.2.2⟩
  case ldc i =>
    have hc : (len == 2 && (ck_32 (am_cst x y) && ck_w hs 0 (.constant own i (Int32.ofInt (am_cst x y))))) = true := hc
    simp only [Bool.and_eq_true] at hc
    exact fun mc ms => ⟨eq_of_beq hc.1, ck_32_ok hc.2.1, ck_w_ok hc.2.2⟩
  case ldc2_w i =>
    have hc : (len == 3 && (ck_64 (am_cst x y) && ck_w hs 0 (.constantLong own i (Int64.ofInt (am_cst x y))))) = true := hc
    simp only [Bool.and_eq_true] at hc
    exact fun mc ms => ⟨eq_of_beq hc.1, ck_64_ok hc.2.1, ck_w_ok hc.2.2⟩
  case lconst _ =>
    exact fun mc ms => eq_of_beq hc
  case iload_n _ =>
    exact fun mc ms => eq_of_beq hc
  case iload _ =>
    exact fun mc ms => eq_of_beq hc
  case lload_n _ =>
    exact fun mc ms => eq_of_beq hc
  case lload _ =>
    exact fun mc ms => eq_of_beq hc
  case aload_n _ =>
    exact fun mc ms => eq_of_beq hc
  case aload _ =>
    exact fun mc ms => eq_of_beq hc
  case istore_n _ =>
    exact fun mc ms => eq_of_beq hc
  case istore _ =>
    exact fun mc ms => eq_of_beq hc
  case lstore_n _ =>
    exact fun mc ms => eq_of_beq hc
  case lstore _ =>
    exact fun mc ms => eq_of_beq hc
  case astore_n _ =>
    exact fun mc ms => eq_of_beq hc
  case astore _ =>
    exact fun mc ms => eq_of_beq hc
  case iinc _ _ =>
    exact fun mc ms => eq_of_beq hc
  case ifCond c off =>
    have hc : (len == 3 && decide ((pc : Int) + off = (x : Int))) = true := hc
    simp only [Bool.and_eq_true, decide_eq_true_eq] at hc
    exact fun mc ms => ⟨eq_of_beq hc.1, hc.2⟩
  case if_icmp c off =>
    have hc : (len == 3 && decide ((pc : Int) + off = (x : Int))) = true := hc
    simp only [Bool.and_eq_true, decide_eq_true_eq] at hc
    exact fun mc ms => ⟨eq_of_beq hc.1, hc.2⟩
  case goto off =>
    have hc : (len == 3 && decide ((pc : Int) + off = (x : Int))) = true := hc
    simp only [Bool.and_eq_true, decide_eq_true_eq] at hc
    exact fun mc ms => ⟨eq_of_beq hc.1, hc.2⟩
  case tableswitch d lo9 hi9 offs =>
    have hc : (decide (0 ≤ (pc : Int) + d) && offs.toList.all (fun o => decide (0 ≤ (pc : Int) + o))) = true := hc
    simp only [Bool.and_eq_true, decide_eq_true_eq, List.all_eq_true] at hc
    exact fun mc ms => ⟨hc.1, hc.2⟩
  case getfield i =>
    have hc : (len == 3 && ck_cls x (fun _ T N => decide (y < N) && ck_w hs 0 (.fieldLink own i (T y).1 (T y).2.1 (T y).2.2.1))) = true := hc
    rw [Bool.and_eq_true] at hc
    obtain ⟨C, T, N, e, hf⟩ := ck_cls_ok hc.2
    simp only [Bool.and_eq_true, decide_eq_true_eq] at hf
    exact fun mc ms => ⟨eq_of_beq hc.1, C, T, N, e, hf.1, ck_w_ok hf.2, (hcl x C T N e).1⟩
  case putfield i =>
    have hc : (len == 3 && ck_cls x (fun _ T N => decide (y < N) && (ck_w hs 0 (.fieldLink own i (T y).1 (T y).2.1 (T y).2.2.1) && (am_tk (ac_ft x y) (am_tyf x y) && (!(T y).2.2.2 || ((T y).2.2.2 && (ini && decide ((T y).1 = own)))))))) = true := hc
    rw [Bool.and_eq_true] at hc
    obtain ⟨C, T, N, e, hf⟩ := ck_cls_ok hc.2
    simp only [Bool.and_eq_true, Bool.or_eq_true, Bool.not_eq_true', decide_eq_true_eq] at hf
    obtain ⟨q1, q2, q3, -⟩ := hcl x C T N e
    exact fun mc ms => ⟨eq_of_beq hc.1, C, T, N, am_tyf x, e, hf.1, ck_w_ok hf.2.1, q1, q2, q3, hf.2.2.1, hf.2.2.2⟩
  case new i =>
    have hc : (len == 3 && ck_cls x (fun C _ N => N == y && (ck_w hs 0 (.classLink own i C) && (ck_w hs 1 (.instantiable C y) && ck_w hs 2 (.initialized C))))) = true := hc
    rw [Bool.and_eq_true] at hc
    obtain ⟨C, T, N, e, hf⟩ := ck_cls_ok hc.2
    simp only [Bool.and_eq_true] at hf
    have hN : N = y := eq_of_beq hf.1
    subst hN
    obtain ⟨q1, q2, q3, q4⟩ := hcl x C T N e
    exact fun mc ms => ⟨eq_of_beq hc.1, C, T, am_tyf x, e, q1, q2, q4, ck_w_ok hf.2.1, ck_w_ok hf.2.2.1, ck_w_ok hf.2.2.2⟩
  case newarray at9 =>
    have hc : (len == 2 && (decide (newarray.typeOf at9 = am_ty x) && ck_w hs 0 (.arrayClass (newarray.typeOf at9)))) = true := hc
    simp only [Bool.and_eq_true, decide_eq_true_eq] at hc
    exact fun mc ms => ⟨eq_of_beq hc.1, hc.2.1, ck_w_ok hc.2.2⟩
  case anewarray i =>
    have hc : (len == 3 && (match am_ty x with
      | .object C => ck_w hs 0 (.classLink own i C)
      | _ => false)) = true := hc
    rw [Bool.and_eq_true] at hc
    obtain ⟨h1, h2⟩ := hc
    split at h2
    · rename_i C e
      exact fun mc ms => ⟨eq_of_beq h1, C, e, ck_w_ok h2⟩
    · cases h2
  case multianewarray i d =>
    have hc : (len == 4 && (d == 2 && (ck_w hs 0 (.classLink own i ("[" ++ (FieldType.array .int).toString)) && ck_w hs 1 (.arrayClass .int)))) = true := hc
    simp only [Bool.and_eq_true] at hc
    exact fun mc ms => ⟨eq_of_beq hc.1, eq_of_beq hc.2.1, ck_w_ok hc.2.2.1, ck_w_ok hc.2.2.2⟩
  case invokevirtual i =>
    have hc : (len == 3 && (x != 900 && x != 901)) = true := hc
    simp only [Bool.and_eq_true, bne_iff_ne] at hc
    exact fun mc ms => ⟨eq_of_beq hc.1, hc.2.1, hc.2.2⟩
  case invokestatic i =>
    have hc : (len == 3 && (x != 900 && (x != 901 || (ck_w hs 0 (.methodLink own i arraycopyName) && (ck_w hs 1 (.native arraycopyName) && (ck_w hs 2 (.static arraycopyName) && (ck_w hs 3 (.initialized "java/lang/System") && (decide (1 ≤ fr) && decide (nativeFrameWords "java/lang/System" "arraycopy" 5 + 11 ≤ lo))))))))) = true := hc
    simp only [Bool.and_eq_true, Bool.or_eq_true, bne_iff_ne, decide_eq_true_eq] at hc
    exact fun mc ms => ⟨eq_of_beq hc.1, hc.2.1, fun q => hc.2.2.elim (fun z => absurd q z) (fun z => ⟨ck_w_ok z.1, ck_w_ok z.2.1, ck_w_ok z.2.2.1, ck_w_ok z.2.2.2.1, z.2.2.2.2.1, z.2.2.2.2.2⟩)⟩
  case invokespecial i =>
    have hc : (len == 3 && (x != 901 && (x != 900 || (ck_w hs 0 (.methodLink own i Lib.objectInit) && (ck_w hs 1 (.instanceMethod Lib.objectInit) && (ck_w hs 2 (.code Lib.objectInit ⟨#[0xb1]⟩ 1 none) && (decide (1 ≤ fr) && decide (12 ≤ lo)))))))) = true := hc
    simp only [Bool.and_eq_true, Bool.or_eq_true, bne_iff_ne, decide_eq_true_eq] at hc
    exact fun mc ms => ⟨eq_of_beq hc.1, hc.2.1, fun q => hc.2.2.elim (fun z => absurd q z) (fun z => ⟨ck_w_ok z.1, ck_w_ok z.2.1, ck_w_ok z.2.2.1, z.2.2.2.1, z.2.2.2.2⟩)⟩
  case iadd =>
    exact fun mc ms => eq_of_beq hc
  case isub =>
    exact fun mc ms => eq_of_beq hc
  case imul =>
    exact fun mc ms => eq_of_beq hc
  case idiv =>
    exact fun mc ms => eq_of_beq hc
  case irem =>
    exact fun mc ms => eq_of_beq hc
  case ineg =>
    exact fun mc ms => eq_of_beq hc
  case iand =>
    exact fun mc ms => eq_of_beq hc
  case ixor =>
    exact fun mc ms => eq_of_beq hc
  case ishl =>
    exact fun mc ms => eq_of_beq hc
  case ishr =>
    exact fun mc ms => eq_of_beq hc
  case ladd =>
    exact fun mc ms => eq_of_beq hc
  case lmul =>
    exact fun mc ms => eq_of_beq hc
  case ldiv =>
    exact fun mc ms => eq_of_beq hc
  case lneg =>
    exact fun mc ms => eq_of_beq hc
  case land =>
    exact fun mc ms => eq_of_beq hc
  case lor =>
    exact fun mc ms => eq_of_beq hc
  case lshl =>
    exact fun mc ms => eq_of_beq hc
  case lshr =>
    exact fun mc ms => eq_of_beq hc
  case lushr =>
    exact fun mc ms => eq_of_beq hc
  case lcmp =>
    exact fun mc ms => eq_of_beq hc
  case i2l =>
    exact fun mc ms => eq_of_beq hc
  case l2i =>
    exact fun mc ms => eq_of_beq hc
  case iaload =>
    exact fun mc ms => eq_of_beq hc
  case baload =>
    exact fun mc ms => eq_of_beq hc
  case laload =>
    exact fun mc ms => eq_of_beq hc
  case aaload =>
    exact fun mc ms => eq_of_beq hc
  case iastore =>
    exact fun mc ms => eq_of_beq hc
  case bastore =>
    exact fun mc ms => eq_of_beq hc
  case lastore =>
    exact fun mc ms => eq_of_beq hc
  case aastore =>
    exact fun mc ms => eq_of_beq hc
  case arraylength =>
    exact fun mc ms => eq_of_beq hc
  case dup =>
    exact fun mc ms => eq_of_beq hc
  case dup2 =>
    exact fun mc ms => eq_of_beq hc
  case pop =>
    exact fun mc ms => eq_of_beq hc
  case pop2 =>
    exact fun mc ms => eq_of_beq hc
  case ireturn =>
    exact fun mc ms => eq_of_beq hc
  case lreturn =>
    exact fun mc ms => eq_of_beq hc
  case return_ =>
    exact fun mc ms => eq_of_beq hc
  all_goals cases hc
end
section
/-! Calls, returns; every row of a method. -/
def ck_cb (fr lo mL : Nat) (N : am_N) (n : Nat) : Bool := decide ((parseMethodDescriptor N.1.desc).map (fun d => d.parameters.length) = some n) && (decide (N.2.2.2.1 + 1 ≤ fr) && decide (8 + (mL + 11) + N.2.2.2.2 ≤ lo))
def ck_ck (own : String) (fr lo : Nat) (row : am_I) (hs : List Nat) : Bool := match row with
  | (.invokevirtual i, _, x, y) => (match ac_L[x % 1000]?, ax_N[x % 1000]? with
    | some M, some N => decide (1 ≤ y) && (ck_cb fr lo M.2 N (y - 1) && (decide (1000 ≤ x) && (ck_cls (x / 1000 - 1) (fun C _ _ => decide (C = N.1.cls)) && (ck_w hs 0 (.methodLink own i N.1) && (ck_w hs 1 (.instanceMethod N.1) && ck_w hs 2 (.selects N.1.cls N.1 N.1))))))
    | _, _ => false)
  | (.invokestatic i, _, x, y) => x == 901 || (match ac_L[x % 1000]?, ax_N[x % 1000]? with
    | some M, some N => ck_cb fr lo M.2 N y && (ck_w hs 0 (.methodLink own i N.1) && ck_w hs 1 (.static N.1))
    | _, _ => false)
  | (.invokespecial i, _, x, y) => x == 900 || (match ac_L[x % 1000]?, ax_N[x % 1000]? with
    | some M, some N => decide (1 ≤ y) && (ck_cb fr lo M.2 N (y - 1) && (decide (1000 ≤ x) && (decide (N.2.2.1 = none) && (decide (N.1.name = "<init>") && (ck_w hs 0 (.instanceMethod N.1) && (ck_w hs 1 (.methodLink own i N.1) || (decide (own = "StrandBoxes") && ((i == 27 && decide (N.1 = yX3_init)) || (i == 34 && decide (N.1 = yX1_init))))))))))
    | _, _ => false)
  | _ => true
/-- what is said of each method once -/
def am_m153 : Prop := ∀ (j : Nat) (C : am_C) (mL : Nat) (N : am_N), ac_L[j]? = some (C, mL) → ax_N[j]? = some N → Cond.code N.1 N.2.1 mL N.2.2.1 ∈ am_Tb ∧ Cond.initialized N.1.cls ∈ am_Tb ∧ N.1.cls ≠ "java/lang/invoke/MethodHandle" ∧ N.1.cls ≠ "java/lang/invoke/VarHandle" ∧ plainFor N.1 = true
theorem ck_cb_ok (hm : am_m153) {fr lo mL n j : Nat} {C : am_C} {N : am_N} (h1 : ac_L[j]? = some (C, mL)) (h2 : ax_N[j]? = some N) (h : ck_cb fr lo mL N n = true) : am_cb am_Tb fr lo mL N n := by
  unfold ck_cb at h
  simp only [Bool.and_eq_true, decide_eq_true_eq] at h
  obtain ⟨q1, q2, q3, q4, -⟩ := hm j C mL N h1 h2
  exact ⟨q1, q2, ⟨q3, q4, h.1⟩, h.2.1, h.2.2⟩
theorem ck_ck_ok (hm : am_m153) {own : String} {fr lo : Nat} {row : am_I} {hs : List Nat} (hc : ck_ck own fr lo row hs = true) : am_ck ac_P ax_N am_Tb own fr lo row := by
  obtain ⟨ins, len, x, y⟩ := row
  cases ins
  case invokevirtual i =>
    have hc : (match ac_L[x % 1000]?, ax_N[x % 1000]? with
      | some M, some N => decide (1 ≤ y) && (ck_cb fr lo M.2 N (y - 1) && (decide (1000 ≤ x) && (ck_cls (x / 1000 - 1) (fun C _ _ => decide (C = N.1.cls)) && (ck_w hs 0 (.methodLink own i N.1) && (ck_w hs 1 (.instanceMethod N.1) && ck_w hs 2 (.selects N.1.cls N.1 N.1))))))
      | _, _ => false) = true := hc
    split at hc
    · rename_i M N e1 e2
      obtain ⟨C, mL⟩ := M
      simp only [Bool.and_eq_true, decide_eq_true_eq] at hc
      obtain ⟨C9, T9, N9, e9, f9⟩ := ck_cls_ok hc.2.2.2.1
      have f9 : C9 = N.1.cls := of_decide_eq_true f9
      subst f9
      exact ⟨C, mL, N, y - 1, e1, e2, ck_cb_ok hm e1 e2 hc.2.1, by omega, hc.2.2.1, ⟨T9, N9, e9⟩, ck_w_ok hc.2.2.2.2.1, ck_w_ok hc.2.2.2.2.2.1, ck_w_ok hc.2.2.2.2.2.2⟩
    · cases hc
  case invokestatic i =>
    have hc : (x == 901 || (match ac_L[x % 1000]?, ax_N[x % 1000]? with
      | some M, some N => ck_cb fr lo M.2 N y && (ck_w hs 0 (.methodLink own i N.1) && ck_w hs 1 (.static N.1))
      | _, _ => false)) = true := hc
    rw [Bool.or_eq_true] at hc
    rcases hc with hc | hc
    · exact Or.inl (eq_of_beq hc)
    · split at hc
      · rename_i M N e1 e2
        obtain ⟨C, mL⟩ := M
        simp only [Bool.and_eq_true] at hc
        exact Or.inr ⟨C, mL, N, y, e1, e2, ck_cb_ok hm e1 e2 hc.1, rfl, ck_w_ok hc.2.1, ck_w_ok hc.2.2⟩
      · cases hc
  case invokespecial i =>
    have hc : (x == 900 || (match ac_L[x % 1000]?, ax_N[x % 1000]? with
      | some M, some N => decide (1 ≤ y) && (ck_cb fr lo M.2 N (y - 1) && (decide (1000 ≤ x) && (decide (N.2.2.1 = none) && (decide (N.1.name = "<init>") && (ck_w hs 0 (.instanceMethod N.1) && (ck_w hs 1 (.methodLink own i N.1) || (decide (own = "StrandBoxes") && ((i == 27 && decide (N.1 = yX3_init)) || (i == 34 && decide (N.1 = yX1_init))))))))))
      | _, _ => false)) = true := hc
    rw [Bool.or_eq_true] at hc
    rcases hc with hc | hc
    · exact Or.inl (eq_of_beq hc)
    · split at hc
      · rename_i M N e1 e2
        obtain ⟨C, mL⟩ := M
        simp only [Bool.and_eq_true, Bool.or_eq_true, decide_eq_true_eq, beq_iff_eq] at hc
        exact Or.inr ⟨C, mL, N, y - 1, e1, e2, ck_cb_ok hm e1 e2 hc.2.1, by omega, hc.2.2.1, hc.2.2.2.1, hc.2.2.2.2.1, ck_w_ok hc.2.2.2.2.2.1, hc.2.2.2.2.2.2.imp ck_w_ok id⟩
      · cases hc
  all_goals trivial
def ck_rt (ret : Option FieldType) (row : am_I) : Bool := match row with
  | (.ireturn, _, x, _) => (x == 0 && decide (ret = some .int)) || (x == 1 && decide (ret = some .boolean))
  | (.lreturn, _, x, _) => x == 2 && decide (ret = some .long)
  | (.return_, _, _, _) => decide (ret = none)
  | _ => true
theorem ck_rt_ok {ret : Option FieldType} {row : am_I} (hc : ck_rt ret row = true) : am_rt ret row := by
  obtain ⟨ins, len, x, y⟩ := row
  cases ins
  case ireturn =>
    have hc : ((x == 0 && decide (ret = some .int)) || (x == 1 && decide (ret = some .boolean))) = true := hc
    simp only [Bool.and_eq_true, Bool.or_eq_true, decide_eq_true_eq, beq_iff_eq] at hc
    exact hc
  case lreturn =>
    have hc : (x == 2 && decide (ret = some .long)) = true := hc
    simp only [Bool.and_eq_true, decide_eq_true_eq, beq_iff_eq] at hc
    exact hc
  case return_ =>
    have hc : decide (ret = none) = true := hc
    exact (of_decide_eq_true hc : ret = none)
  all_goals trivial
/-- the rows of a code table, with their places -/
def am_en (C : am_C) : List (Nat × am_I) := C.zipIdx.flatMap (fun q => q.1.zipIdx.filterMap (fun o => o.1.map (fun row => (32 * q.2 + o.2, row))))
theorem am_en_mem {C : am_C} {pc : Nat} {row : am_I} (h : am_row C pc = some row) : (pc, row) ∈ am_en C := by
  unfold am_row at h
  obtain ⟨l, h1, h2⟩ := Option.bind_eq_some_iff.mp h
  obtain ⟨o, h3, h4⟩ := Option.bind_eq_some_iff.mp h2
  have h4 : o = some row := h4
  subst h4
  refine List.mem_flatMap.mpr ⟨(l, pc / 32), List.mem_zipIdx_iff_getElem?.mpr h1, List.mem_filterMap.mpr ⟨(some row, pc % 32), List.mem_zipIdx_iff_getElem?.mpr h3, ?_⟩⟩
  show some (32 * (pc / 32) + pc % 32, row) = some (pc, row)
  rw [Nat.div_add_mod]
def ck_1 (N : am_N) (q : (Nat × am_I) × List Nat) : Bool := decide (decode N.2.1 q.1.1 = .ok (q.1.2.1, q.1.2.2.1)) && (ck_rk N.1.cls (decide (N.1.name = "<init>")) N.2.2.2.1 N.2.2.2.2 q.1.1 q.1.2 q.2 && (ck_ck N.1.cls N.2.2.2.1 N.2.2.2.2 q.1.2 q.2 && ck_rt N.2.2.1 q.1.2))
def ck_M (C : am_C) (N : am_N) (H : List (List Nat)) : Bool := (am_en C).length == H.length && ((am_en C).zip H).all (ck_1 N)
def ck_j (j : Nat) : Bool := match ac_L[j]?, ax_N[j]?, ax_H[j]? with
  | some M, some N, some H => ck_M M.1 N H
  | _, _, _ => false
theorem am_zip_mem {α β : Type} {a : α} : ∀ {l : List α} {k : List β}, l.length = k.length → a ∈ l → ∃ b, (a, b) ∈ l.zip k
  | x :: l, y :: k, h, ha => by
    rcases List.mem_cons.mp ha with rfl | ha
    · exact ⟨y, List.mem_cons_self⟩
    · obtain ⟨b, hb⟩ := am_zip_mem (Nat.succ.inj h) ha
      exact ⟨b, List.mem_cons_of_mem _ hb⟩
theorem am_Ok_of (hcl : am_cl6) (hm : am_m153) (hall : ∀ j, j < 153 → ck_j j = true) : am_Ok ac_P ax_N am_Tb := by
  refine ⟨am_Tb_good, fun j C mL N hj hN => ⟨(hm j C mL N hj hN).2.2.2.2, fun pc row hrow => ?_⟩⟩
  have hj : ac_L[j]? = some (C, mL) := hj
  have hlt : j < 153 := (List.getElem?_eq_some_iff.mp hj).1
  have h := hall j hlt
  unfold ck_j at h
  rw [hj, hN] at h
  split at h
  · rename_i M N9 H e1 e2 e3
    cases e1
    cases e2
    unfold ck_M at h
    rw [Bool.and_eq_true] at h
    obtain ⟨b, hb⟩ := am_zip_mem (eq_of_beq h.1) (am_en_mem hrow)
    have h9 := List.all_eq_true.mp h.2 _ hb
    unfold ck_1 at h9
    simp only [Bool.and_eq_true] at h9
    exact ⟨of_decide_eq_true h9.1, fun mc ms => (by
      have := ck_rk_ok hcl h9.2.1 mc ms
      simp only [decide_eq_true_eq] at this
      exact this), ck_ck_ok hm h9.2.2.1, ck_rt_ok h9.2.2.2⟩
  · cases h
end
section
/-! The check, computed. -/
def ck_m (j : Nat) : Bool := match ac_L[j]?, ax_N[j]? with
  | some M, some N => ck_w ax_in j (.initialized N.1.cls) && (decide (N.1.cls ≠ "java/lang/invoke/MethodHandle") && (decide (N.1.cls ≠ "java/lang/invoke/VarHandle") && plainFor N.1))
  | _, _ => false
/-- the words of the methods' code, by their places -/
def ck_c (j : Nat) : Prop := ∀ (C : am_C) (mL : Nat) (N : am_N), ac_L[j]? = some (C, mL) → ax_N[j]? = some N → Cond.code N.1 N.2.1 mL N.2.2.1 ∈ lw_tbl
set_option maxRecDepth 100000 in
theorem okc_0 : ck_c 0 := fun C mL N h1 h2 => by
  cases h1
  cases h2
  exact List.mem_of_getElem? (i := 131) rfl
set_option maxRecDepth 100000 in
theorem okc_1 : ck_c 1 := fun C mL N h1 h2 => by
  cases h1
  cases h2
  exact List.mem_of_getElem? (i := 135) rfl
set_option maxRecDepth 100000 in
theorem okc_2 : ck_c 2 := fun C mL N h1 h2 => by
  cases h1
  cases h2
  exact List.mem_of_getElem? (i := 141) rfl
set_option maxRecDepth 100000 in
theorem okc_3 : ck_c 3 := fun C mL N h1 h2 => by
  cases h1
  cases h2
  exact List.mem_of_getElem? (i := 145) rfl
set_option maxRecDepth 100000 in
theorem okc_4 : ck_c 4 := fun C mL N h1 h2 => by
  cases h1
  cases h2
  exact List.mem_of_getElem? (i := 153) rfl
set_option maxRecDepth 100000 in
theorem okc_5 : ck_c 5 := fun C mL N h1 h2 => by
  cases h1
  cases h2
  exact List.mem_of_getElem? (i := 160) rfl
set_option maxRecDepth 100000 in
theorem okc_6 : ck_c 6 := fun C mL N h1 h2 => by
  cases h1
  cases h2
  exact List.mem_of_getElem? (i := 188) rfl
set_option maxRecDepth 100000 in
theorem okc_7 : ck_c 7 := fun C mL N h1 h2 => by
  cases h1
  cases h2
  exact List.mem_of_getElem? (i := 327) rfl
set_option maxRecDepth 100000 in
theorem okc_8 : ck_c 8 := fun C mL N h1 h2 => by
  cases h1
  cases h2
  exact List.mem_of_getElem? (i := 331) rfl
set_option maxRecDepth 100000 in
theorem okc_9 : ck_c 9 := fun C mL N h1 h2 => by
  cases h1
  cases h2
  exact List.mem_of_getElem? (i := 339) rfl
set_option maxRecDepth 100000 in
theorem okc_10 : ck_c 10 := fun C mL N h1 h2 => by
  cases h1
  cases h2
  exact List.mem_of_getElem? (i := 335) rfl
set_option maxRecDepth 100000 in
theorem okc_11 : ck_c 11 := fun C mL N h1 h2 => by
  cases h1
  cases h2
  exact List.mem_of_getElem? (i := 356) rfl
set_option maxRecDepth 100000 in
theorem okc_12 : ck_c 12 := fun C mL N h1 h2 => by
  cases h1
  cases h2
  exact List.mem_of_getElem? (i := 360) rfl
set_option maxRecDepth 100000 in
theorem okc_13 : ck_c 13 := fun C mL N h1 h2 => by
  cases h1
  cases h2
  exact List.mem_of_getElem? (i := 168) rfl
set_option maxRecDepth 100000 in
theorem okc_14 : ck_c 14 := fun C mL N h1 h2 => by
  cases h1
  cases h2
  exact List.mem_of_getElem? (i := 164) rfl
set_option maxRecDepth 100000 in
theorem okc_15 : ck_c 15 := fun C mL N h1 h2 => by
  cases h1
  cases h2
  exact List.mem_of_getElem? (i := 149) rfl
set_option maxRecDepth 100000 in
theorem okc_16 : ck_c 16 := fun C mL N h1 h2 => by
  cases h1
  cases h2
  exact List.mem_of_getElem? (i := 172) rfl
set_option maxRecDepth 100000 in
theorem okc_17 : ck_c 17 := fun C mL N h1 h2 => by
  cases h1
  cases h2
  exact List.mem_of_getElem? (i := 176) rfl
set_option maxRecDepth 100000 in
theorem okc_18 : ck_c 18 := fun C mL N h1 h2 => by
  cases h1
  cases h2
  exact List.mem_of_getElem? (i := 184) rfl
set_option maxRecDepth 100000 in
theorem okc_19 : ck_c 19 := fun C mL N h1 h2 => by
  cases h1
  cases h2
  exact List.mem_of_getElem? (i := 180) rfl
set_option maxRecDepth 100000 in
theorem okc_20 : ck_c 20 := fun C mL N h1 h2 => by
  cases h1
  cases h2
  exact List.mem_of_getElem? (i := 156) rfl
set_option maxRecDepth 100000 in
theorem okc_21 : ck_c 21 := fun C mL N h1 h2 => by
  cases h1
  cases h2
  exact List.mem_of_getElem? (i := 376) rfl
set_option maxRecDepth 100000 in
theorem okc_22 : ck_c 22 := fun C mL N h1 h2 => by
  cases h1
  cases h2
  exact List.mem_of_getElem? (i := 192) rfl
set_option maxRecDepth 100000 in
theorem okc_23 : ck_c 23 := fun C mL N h1 h2 => by
  cases h1
  cases h2
  exact List.mem_of_getElem? (i := 196) rfl
set_option maxRecDepth 100000 in
theorem okc_24 : ck_c 24 := fun C mL N h1 h2 => by
  cases h1
  cases h2
  exact List.mem_of_getElem? (i := 200) rfl
set_option maxRecDepth 100000 in
theorem okc_25 : ck_c 25 := fun C mL N h1 h2 => by
  cases h1
  cases h2
  exact List.mem_of_getElem? (i := 204) rfl
set_option maxRecDepth 100000 in
theorem okc_26 : ck_c 26 := fun C mL N h1 h2 => by
  cases h1
  cases h2
  exact List.mem_of_getElem? (i := 208) rfl
set_option maxRecDepth 100000 in
theorem okc_27 : ck_c 27 := fun C mL N h1 h2 => by
  cases h1
  cases h2
  exact List.mem_of_getElem? (i := 389) rfl
set_option maxRecDepth 100000 in
theorem okc_28 : ck_c 28 := fun C mL N h1 h2 => by
  cases h1
  cases h2
  exact List.mem_of_getElem? (i := 368) rfl
set_option maxRecDepth 100000 in
theorem okc_29 : ck_c 29 := fun C mL N h1 h2 => by
  cases h1
  cases h2
  exact List.mem_of_getElem? (i := 108) rfl
set_option maxRecDepth 100000 in
theorem okc_30 : ck_c 30 := fun C mL N h1 h2 => by
  cases h1
  cases h2
  exact List.mem_of_getElem? (i := 559) rfl
set_option maxRecDepth 100000 in
theorem okc_31 : ck_c 31 := fun C mL N h1 h2 => by
  cases h1
  cases h2
  exact List.mem_of_getElem? (i := 567) rfl
set_option maxRecDepth 100000 in
theorem okc_32 : ck_c 32 := fun C mL N h1 h2 => by
  cases h1
  cases h2
  exact List.mem_of_getElem? (i := 571) rfl
set_option maxRecDepth 100000 in
theorem okc_33 : ck_c 33 := fun C mL N h1 h2 => by
  cases h1
  cases h2
  exact List.mem_of_getElem? (i := 579) rfl
set_option maxRecDepth 100000 in
theorem okc_34 : ck_c 34 := fun C mL N h1 h2 => by
  cases h1
  cases h2
  exact List.mem_of_getElem? (i := 588) rfl
set_option maxRecDepth 100000 in
theorem okc_35 : ck_c 35 := fun C mL N h1 h2 => by
  cases h1
  cases h2
  exact List.mem_of_getElem? (i := 592) rfl
set_option maxRecDepth 100000 in
theorem okc_36 : ck_c 36 := fun C mL N h1 h2 => by
  cases h1
  cases h2
  exact List.mem_of_getElem? (i := 600) rfl
set_option maxRecDepth 100000 in
theorem okc_37 : ck_c 37 := fun C mL N h1 h2 => by
  cases h1
  cases h2
  exact List.mem_of_getElem? (i := 259) rfl
set_option maxRecDepth 100000 in
theorem okc_38 : ck_c 38 := fun C mL N h1 h2 => by
  cases h1
  cases h2
  exact List.mem_of_getElem? (i := 277) rfl
set_option maxRecDepth 100000 in
theorem okc_39 : ck_c 39 := fun C mL N h1 h2 => by
  cases h1
  cases h2
  exact List.mem_of_getElem? (i := 272) rfl
set_option maxRecDepth 100000 in
theorem okc_40 : ck_c 40 := fun C mL N h1 h2 => by
  cases h1
  cases h2
  exact List.mem_of_getElem? (i := 265) rfl
set_option maxRecDepth 100000 in
theorem okc_41 : ck_c 41 := fun C mL N h1 h2 => by
  cases h1
  cases h2
  exact List.mem_of_getElem? (i := 268) rfl
set_option maxRecDepth 100000 in
theorem okc_42 : ck_c 42 := fun C mL N h1 h2 => by
  cases h1
  cases h2
  exact List.mem_of_getElem? (i := 493) rfl
set_option maxRecDepth 100000 in
theorem okc_43 : ck_c 43 := fun C mL N h1 h2 => by
  cases h1
  cases h2
  exact List.mem_of_getElem? (i := 501) rfl
set_option maxRecDepth 100000 in
theorem okc_44 : ck_c 44 := fun C mL N h1 h2 => by
  cases h1
  cases h2
  exact List.mem_of_getElem? (i := 509) rfl
set_option maxRecDepth 100000 in
theorem okc_45 : ck_c 45 := fun C mL N h1 h2 => by
  cases h1
  cases h2
  exact List.mem_of_getElem? (i := 513) rfl
set_option maxRecDepth 100000 in
theorem okc_46 : ck_c 46 := fun C mL N h1 h2 => by
  cases h1
  cases h2
  exact List.mem_of_getElem? (i := 517) rfl
set_option maxRecDepth 100000 in
theorem okc_47 : ck_c 47 := fun C mL N h1 h2 => by
  cases h1
  cases h2
  exact List.mem_of_getElem? (i := 528) rfl
set_option maxRecDepth 100000 in
theorem okc_48 : ck_c 48 := fun C mL N h1 h2 => by
  cases h1
  cases h2
  exact List.mem_of_getElem? (i := 535) rfl
set_option maxRecDepth 100000 in
theorem okc_49 : ck_c 49 := fun C mL N h1 h2 => by
  cases h1
  cases h2
  exact List.mem_of_getElem? (i := 539) rfl
set_option maxRecDepth 100000 in
theorem okc_50 : ck_c 50 := fun C mL N h1 h2 => by
  cases h1
  cases h2
  exact List.mem_of_getElem? (i := 543) rfl
set_option maxRecDepth 100000 in
theorem okc_51 : ck_c 51 := fun C mL N h1 h2 => by
  cases h1
  cases h2
  exact List.mem_of_getElem? (i := 547) rfl
set_option maxRecDepth 100000 in
theorem okc_52 : ck_c 52 := fun C mL N h1 h2 => by
  cases h1
  cases h2
  exact List.mem_of_getElem? (i := 551) rfl
set_option maxRecDepth 100000 in
theorem okc_53 : ck_c 53 := fun C mL N h1 h2 => by
  cases h1
  cases h2
  exact List.mem_of_getElem? (i := 79) rfl
set_option maxRecDepth 100000 in
theorem okc_54 : ck_c 54 := fun C mL N h1 h2 => by
  cases h1
  cases h2
  exact List.mem_of_getElem? (i := 400) rfl
set_option maxRecDepth 100000 in
theorem okc_55 : ck_c 55 := fun C mL N h1 h2 => by
  cases h1
  cases h2
  exact List.mem_of_getElem? (i := 460) rfl
set_option maxRecDepth 100000 in
theorem okc_56 : ck_c 56 := fun C mL N h1 h2 => by
  cases h1
  cases h2
  exact List.mem_of_getElem? (i := 478) rfl
set_option maxRecDepth 100000 in
theorem okc_57 : ck_c 57 := fun C mL N h1 h2 => by
  cases h1
  cases h2
  exact List.mem_of_getElem? (i := 419) rfl
set_option maxRecDepth 100000 in
theorem okc_58 : ck_c 58 := fun C mL N h1 h2 => by
  cases h1
  cases h2
  exact List.mem_of_getElem? (i := 413) rfl
set_option maxRecDepth 100000 in
theorem okc_59 : ck_c 59 := fun C mL N h1 h2 => by
  cases h1
  cases h2
  exact List.mem_of_getElem? (i := 410) rfl
set_option maxRecDepth 100000 in
theorem okc_60 : ck_c 60 := fun C mL N h1 h2 => by
  cases h1
  cases h2
  exact List.mem_of_getElem? (i := 423) rfl
set_option maxRecDepth 100000 in
theorem okc_61 : ck_c 61 := fun C mL N h1 h2 => by
  cases h1
  cases h2
  exact List.mem_of_getElem? (i := 432) rfl
set_option maxRecDepth 100000 in
theorem okc_62 : ck_c 62 := fun C mL N h1 h2 => by
  cases h1
  cases h2
  exact List.mem_of_getElem? (i := 427) rfl
set_option maxRecDepth 100000 in
theorem okc_63 : ck_c 63 := fun C mL N h1 h2 => by
  cases h1
  cases h2
  exact List.mem_of_getElem? (i := 456) rfl
set_option maxRecDepth 100000 in
theorem okc_64 : ck_c 64 := fun C mL N h1 h2 => by
  cases h1
  cases h2
  exact List.mem_of_getElem? (i := 444) rfl
set_option maxRecDepth 100000 in
theorem okc_65 : ck_c 65 := fun C mL N h1 h2 => by
  cases h1
  cases h2
  exact List.mem_of_getElem? (i := 447) rfl
set_option maxRecDepth 100000 in
theorem okc_66 : ck_c 66 := fun C mL N h1 h2 => by
  cases h1
  cases h2
  exact List.mem_of_getElem? (i := 66) rfl
set_option maxRecDepth 100000 in
theorem okc_67 : ck_c 67 := fun C mL N h1 h2 => by
  cases h1
  cases h2
  exact List.mem_of_getElem? (i := 320) rfl
set_option maxRecDepth 100000 in
theorem okc_68 : ck_c 68 := fun C mL N h1 h2 => by
  cases h1
  cases h2
  exact List.mem_of_getElem? (i := 343) rfl
set_option maxRecDepth 100000 in
theorem okc_69 : ck_c 69 := fun C mL N h1 h2 => by
  cases h1
  cases h2
  exact List.mem_of_getElem? (i := 351) rfl
set_option maxRecDepth 100000 in
theorem okc_70 : ck_c 70 := fun C mL N h1 h2 => by
  cases h1
  cases h2
  exact List.mem_of_getElem? (i := 364) rfl
set_option maxRecDepth 100000 in
theorem okc_71 : ck_c 71 := fun C mL N h1 h2 => by
  cases h1
  cases h2
  exact List.mem_of_getElem? (i := 372) rfl
set_option maxRecDepth 100000 in
theorem okc_72 : ck_c 72 := fun C mL N h1 h2 => by
  cases h1
  cases h2
  exact List.mem_of_getElem? (i := 380) rfl
set_option maxRecDepth 100000 in
theorem okc_73 : ck_c 73 := fun C mL N h1 h2 => by
  cases h1
  cases h2
  exact List.mem_of_getElem? (i := 385) rfl
set_option maxRecDepth 100000 in
theorem okc_74 : ck_c 74 := fun C mL N h1 h2 => by
  cases h1
  cases h2
  exact List.mem_of_getElem? (i := 393) rfl
set_option maxRecDepth 100000 in
theorem okc_75 : ck_c 75 := fun C mL N h1 h2 => by
  cases h1
  cases h2
  exact List.mem_of_getElem? (i := 404) rfl
set_option maxRecDepth 100000 in
theorem okc_76 : ck_c 76 := fun C mL N h1 h2 => by
  cases h1
  cases h2
  exact List.mem_of_getElem? (i := 436) rfl
set_option maxRecDepth 100000 in
theorem okc_77 : ck_c 77 := fun C mL N h1 h2 => by
  cases h1
  cases h2
  exact List.mem_of_getElem? (i := 464) rfl
set_option maxRecDepth 100000 in
theorem okc_78 : ck_c 78 := fun C mL N h1 h2 => by
  cases h1
  cases h2
  exact List.mem_of_getElem? (i := 468) rfl
set_option maxRecDepth 100000 in
theorem okc_79 : ck_c 79 := fun C mL N h1 h2 => by
  cases h1
  cases h2
  exact List.mem_of_getElem? (i := 474) rfl
set_option maxRecDepth 100000 in
theorem okc_80 : ck_c 80 := fun C mL N h1 h2 => by
  cases h1
  cases h2
  exact List.mem_of_getElem? (i := 482) rfl
set_option maxRecDepth 100000 in
theorem okc_81 : ck_c 81 := fun C mL N h1 h2 => by
  cases h1
  cases h2
  exact List.mem_of_getElem? (i := 486) rfl
set_option maxRecDepth 100000 in
theorem okc_82 : ck_c 82 := fun C mL N h1 h2 => by
  cases h1
  cases h2
  exact List.mem_of_getElem? (i := 497) rfl
set_option maxRecDepth 100000 in
theorem okc_83 : ck_c 83 := fun C mL N h1 h2 => by
  cases h1
  cases h2
  exact List.mem_of_getElem? (i := 505) rfl
set_option maxRecDepth 100000 in
theorem okc_84 : ck_c 84 := fun C mL N h1 h2 => by
  cases h1
  cases h2
  exact List.mem_of_getElem? (i := 521) rfl
set_option maxRecDepth 100000 in
theorem okc_85 : ck_c 85 := fun C mL N h1 h2 => by
  cases h1
  cases h2
  exact List.mem_of_getElem? (i := 555) rfl
set_option maxRecDepth 100000 in
theorem okc_86 : ck_c 86 := fun C mL N h1 h2 => by
  cases h1
  cases h2
  exact List.mem_of_getElem? (i := 563) rfl
set_option maxRecDepth 100000 in
theorem okc_87 : ck_c 87 := fun C mL N h1 h2 => by
  cases h1
  cases h2
  exact List.mem_of_getElem? (i := 575) rfl
set_option maxRecDepth 100000 in
theorem okc_88 : ck_c 88 := fun C mL N h1 h2 => by
  cases h1
  cases h2
  exact List.mem_of_getElem? (i := 583) rfl
set_option maxRecDepth 100000 in
theorem okc_89 : ck_c 89 := fun C mL N h1 h2 => by
  cases h1
  cases h2
  exact List.mem_of_getElem? (i := 323) rfl
set_option maxRecDepth 100000 in
theorem okc_90 : ck_c 90 := fun C mL N h1 h2 => by
  cases h1
  cases h2
  exact List.mem_of_getElem? (i := 396) rfl
set_option maxRecDepth 100000 in
theorem okc_91 : ck_c 91 := fun C mL N h1 h2 => by
  cases h1
  cases h2
  exact List.mem_of_getElem? (i := 489) rfl
set_option maxRecDepth 100000 in
theorem okc_92 : ck_c 92 := fun C mL N h1 h2 => by
  cases h1
  cases h2
  exact List.mem_of_getElem? (i := 347) rfl
set_option maxRecDepth 100000 in
theorem okc_93 : ck_c 93 := fun C mL N h1 h2 => by
  cases h1
  cases h2
  exact List.mem_of_getElem? (i := 524) rfl
set_option maxRecDepth 100000 in
theorem okc_94 : ck_c 94 := fun C mL N h1 h2 => by
  cases h1
  cases h2
  exact List.mem_of_getElem? (i := 440) rfl
set_option maxRecDepth 100000 in
theorem okc_95 : ck_c 95 := fun C mL N h1 h2 => by
  cases h1
  cases h2
  exact List.mem_of_getElem? (i := 605) rfl
set_option maxRecDepth 100000 in
theorem okc_96 : ck_c 96 := fun C mL N h1 h2 => by
  cases h1
  cases h2
  exact List.mem_of_getElem? (i := 637) rfl
set_option maxRecDepth 100000 in
theorem okc_97 : ck_c 97 := fun C mL N h1 h2 => by
  cases h1
  cases h2
  exact List.mem_of_getElem? (i := 735) rfl
set_option maxRecDepth 100000 in
theorem okc_98 : ck_c 98 := fun C mL N h1 h2 => by
  cases h1
  cases h2
  exact List.mem_of_getElem? (i := 609) rfl
set_option maxRecDepth 100000 in
theorem okc_99 : ck_c 99 := fun C mL N h1 h2 => by
  cases h1
  cases h2
  exact List.mem_of_getElem? (i := 619) rfl
set_option maxRecDepth 100000 in
theorem okc_100 : ck_c 100 := fun C mL N h1 h2 => by
  cases h1
  cases h2
  exact List.mem_of_getElem? (i := 750) rfl
set_option maxRecDepth 100000 in
theorem okc_101 : ck_c 101 := fun C mL N h1 h2 => by
  cases h1
  cases h2
  exact List.mem_of_getElem? (i := 616) rfl
set_option maxRecDepth 100000 in
theorem okc_102 : ck_c 102 := fun C mL N h1 h2 => by
  cases h1
  cases h2
  exact List.mem_of_getElem? (i := 613) rfl
set_option maxRecDepth 100000 in
theorem okc_103 : ck_c 103 := fun C mL N h1 h2 => by
  cases h1
  cases h2
  exact List.mem_of_getElem? (i := 631) rfl
set_option maxRecDepth 100000 in
theorem okc_104 : ck_c 104 := fun C mL N h1 h2 => by
  cases h1
  cases h2
  exact List.mem_of_getElem? (i := 646) rfl
set_option maxRecDepth 100000 in
theorem okc_105 : ck_c 105 := fun C mL N h1 h2 => by
  cases h1
  cases h2
  exact List.mem_of_getElem? (i := 642) rfl
set_option maxRecDepth 100000 in
theorem okc_106 : ck_c 106 := fun C mL N h1 h2 => by
  cases h1
  cases h2
  exact List.mem_of_getElem? (i := 766) rfl
set_option maxRecDepth 100000 in
theorem okc_107 : ck_c 107 := fun C mL N h1 h2 => by
  cases h1
  cases h2
  exact List.mem_of_getElem? (i := 634) rfl
set_option maxRecDepth 100000 in
theorem okc_108 : ck_c 108 := fun C mL N h1 h2 => by
  cases h1
  cases h2
  exact List.mem_of_getElem? (i := 627) rfl
set_option maxRecDepth 100000 in
theorem okc_109 : ck_c 109 := fun C mL N h1 h2 => by
  cases h1
  cases h2
  exact List.mem_of_getElem? (i := 623) rfl
set_option maxRecDepth 100000 in
theorem okc_110 : ck_c 110 := fun C mL N h1 h2 => by
  cases h1
  cases h2
  exact List.mem_of_getElem? (i := 740) rfl
set_option maxRecDepth 100000 in
theorem okc_111 : ck_c 111 := fun C mL N h1 h2 => by
  cases h1
  cases h2
  exact List.mem_of_getElem? (i := 743) rfl
set_option maxRecDepth 100000 in
theorem okc_112 : ck_c 112 := fun C mL N h1 h2 => by
  cases h1
  cases h2
  exact List.mem_of_getElem? (i := 732) rfl
set_option maxRecDepth 100000 in
theorem okc_113 : ck_c 113 := fun C mL N h1 h2 => by
  cases h1
  cases h2
  exact List.mem_of_getElem? (i := 747) rfl
set_option maxRecDepth 100000 in
theorem okc_114 : ck_c 114 := fun C mL N h1 h2 => by
  cases h1
  cases h2
  exact List.mem_of_getElem? (i := 758) rfl
set_option maxRecDepth 100000 in
theorem okc_115 : ck_c 115 := fun C mL N h1 h2 => by
  cases h1
  cases h2
  exact List.mem_of_getElem? (i := 762) rfl
set_option maxRecDepth 100000 in
theorem okc_116 : ck_c 116 := fun C mL N h1 h2 => by
  cases h1
  cases h2
  exact List.mem_of_getElem? (i := 754) rfl
set_option maxRecDepth 100000 in
theorem okc_117 : ck_c 117 := fun C mL N h1 h2 => by
  cases h1
  cases h2
  exact List.mem_of_getElem? (i := 770) rfl
set_option maxRecDepth 100000 in
theorem okc_118 : ck_c 118 := fun C mL N h1 h2 => by
  cases h1
  cases h2
  exact List.mem_of_getElem? (i := 774) rfl
set_option maxRecDepth 100000 in
theorem okc_119 : ck_c 119 := fun C mL N h1 h2 => by
  cases h1
  cases h2
  exact List.mem_of_getElem? (i := 779) rfl
set_option maxRecDepth 100000 in
theorem okc_120 : ck_c 120 := fun C mL N h1 h2 => by
  cases h1
  cases h2
  exact List.mem_of_getElem? (i := 783) rfl
set_option maxRecDepth 100000 in
theorem okc_121 : ck_c 121 := fun C mL N h1 h2 => by
  cases h1
  cases h2
  exact List.mem_of_getElem? (i := 790) rfl
set_option maxRecDepth 100000 in
theorem okc_122 : ck_c 122 := fun C mL N h1 h2 => by
  cases h1
  cases h2
  exact List.mem_of_getElem? (i := 806) rfl
set_option maxRecDepth 100000 in
theorem okc_123 : ck_c 123 := fun C mL N h1 h2 => by
  cases h1
  cases h2
  exact List.mem_of_getElem? (i := 795) rfl
set_option maxRecDepth 100000 in
theorem okc_124 : ck_c 124 := fun C mL N h1 h2 => by
  cases h1
  cases h2
  exact List.mem_of_getElem? (i := 816) rfl
set_option maxRecDepth 100000 in
theorem okc_125 : ck_c 125 := fun C mL N h1 h2 => by
  cases h1
  cases h2
  exact List.mem_of_getElem? (i := 810) rfl
set_option maxRecDepth 100000 in
theorem okc_126 : ck_c 126 := fun C mL N h1 h2 => by
  cases h1
  cases h2
  exact List.mem_of_getElem? (i := 787) rfl
set_option maxRecDepth 100000 in
theorem okc_127 : ck_c 127 := fun C mL N h1 h2 => by
  cases h1
  cases h2
  exact List.mem_of_getElem? (i := 799) rfl
set_option maxRecDepth 100000 in
theorem okc_128 : ck_c 128 := fun C mL N h1 h2 => by
  cases h1
  cases h2
  exact List.mem_of_getElem? (i := 820) rfl
set_option maxRecDepth 100000 in
theorem okc_129 : ck_c 129 := fun C mL N h1 h2 => by
  cases h1
  cases h2
  exact List.mem_of_getElem? (i := 825) rfl
set_option maxRecDepth 100000 in
theorem okc_130 : ck_c 130 := fun C mL N h1 h2 => by
  cases h1
  cases h2
  exact List.mem_of_getElem? (i := 829) rfl
set_option maxRecDepth 100000 in
theorem okc_131 : ck_c 131 := fun C mL N h1 h2 => by
  cases h1
  cases h2
  exact List.mem_of_getElem? (i := 835) rfl
set_option maxRecDepth 100000 in
theorem okc_132 : ck_c 132 := fun C mL N h1 h2 => by
  cases h1
  cases h2
  exact List.mem_of_getElem? (i := 839) rfl
set_option maxRecDepth 100000 in
theorem okc_133 : ck_c 133 := fun C mL N h1 h2 => by
  cases h1
  cases h2
  exact List.mem_of_getElem? (i := 854) rfl
set_option maxRecDepth 100000 in
theorem okc_134 : ck_c 134 := fun C mL N h1 h2 => by
  cases h1
  cases h2
  exact List.mem_of_getElem? (i := 851) rfl
set_option maxRecDepth 100000 in
theorem okc_135 : ck_c 135 := fun C mL N h1 h2 => by
  cases h1
  cases h2
  exact List.mem_of_getElem? (i := 847) rfl
set_option maxRecDepth 100000 in
theorem okc_136 : ck_c 136 := fun C mL N h1 h2 => by
  cases h1
  cases h2
  exact List.mem_of_getElem? (i := 844) rfl
set_option maxRecDepth 100000 in
theorem okc_137 : ck_c 137 := fun C mL N h1 h2 => by
  cases h1
  cases h2
  exact List.mem_of_getElem? (i := 858) rfl
set_option maxRecDepth 100000 in
theorem okc_138 : ck_c 138 := fun C mL N h1 h2 => by
  cases h1
  cases h2
  exact List.mem_of_getElem? (i := 866) rfl
set_option maxRecDepth 100000 in
theorem okc_139 : ck_c 139 := fun C mL N h1 h2 => by
  cases h1
  cases h2
  exact List.mem_of_getElem? (i := 862) rfl
set_option maxRecDepth 100000 in
theorem okc_140 : ck_c 140 := fun C mL N h1 h2 => by
  cases h1
  cases h2
  exact List.mem_of_getElem? (i := 876) rfl
set_option maxRecDepth 100000 in
theorem okc_141 : ck_c 141 := fun C mL N h1 h2 => by
  cases h1
  cases h2
  exact List.mem_of_getElem? (i := 884) rfl
set_option maxRecDepth 100000 in
theorem okc_142 : ck_c 142 := fun C mL N h1 h2 => by
  cases h1
  cases h2
  exact List.mem_of_getElem? (i := 870) rfl
set_option maxRecDepth 100000 in
theorem okc_143 : ck_c 143 := fun C mL N h1 h2 => by
  cases h1
  cases h2
  exact List.mem_of_getElem? (i := 881) rfl
set_option maxRecDepth 100000 in
theorem okc_144 : ck_c 144 := fun C mL N h1 h2 => by
  cases h1
  cases h2
  exact List.mem_of_getElem? (i := 888) rfl
set_option maxRecDepth 100000 in
theorem okc_145 : ck_c 145 := fun C mL N h1 h2 => by
  cases h1
  cases h2
  exact List.mem_of_getElem? (i := 892) rfl
set_option maxRecDepth 100000 in
theorem okc_146 : ck_c 146 := fun C mL N h1 h2 => by
  cases h1
  cases h2
  exact List.mem_of_getElem? (i := 896) rfl
set_option maxRecDepth 100000 in
theorem okc_147 : ck_c 147 := fun C mL N h1 h2 => by
  cases h1
  cases h2
  exact List.mem_of_getElem? (i := 907) rfl
set_option maxRecDepth 100000 in
theorem okc_148 : ck_c 148 := fun C mL N h1 h2 => by
  cases h1
  cases h2
  exact List.mem_of_getElem? (i := 900) rfl
set_option maxRecDepth 100000 in
theorem okc_149 : ck_c 149 := fun C mL N h1 h2 => by
  cases h1
  cases h2
  exact List.mem_of_getElem? (i := 531) rfl
set_option maxRecDepth 100000 in
theorem okc_150 : ck_c 150 := fun C mL N h1 h2 => by
  cases h1
  cases h2
  exact List.mem_of_getElem? (i := 596) rfl
set_option maxRecDepth 100000 in
theorem okc_151 : ck_c 151 := fun C mL N h1 h2 => by
  cases h1
  cases h2
  exact List.mem_of_getElem? (i := 450) rfl
set_option maxRecDepth 100000 in
theorem okc_152 : ck_c 152 := fun C mL N h1 h2 => by
  cases h1
  cases h2
  exact List.mem_of_getElem? (i := 211) rfl
set_option maxRecDepth 1000000 in
theorem okm_0 : (List.range' 0 9).all ck_m = true := by decide +kernel
set_option maxRecDepth 1000000 in
theorem okm_9 : (List.range' 9 9).all ck_m = true := by decide +kernel
set_option maxRecDepth 1000000 in
theorem okm_18 : (List.range' 18 9).all ck_m = true := by decide +kernel
set_option maxRecDepth 1000000 in
theorem okm_27 : (List.range' 27 9).all ck_m = true := by decide +kernel
set_option maxRecDepth 1000000 in
theorem okm_36 : (List.range' 36 9).all ck_m = true := by decide +kernel
set_option maxRecDepth 1000000 in
theorem okm_45 : (List.range' 45 9).all ck_m = true := by decide +kernel
set_option maxRecDepth 1000000 in
theorem okm_54 : (List.range' 54 9).all ck_m = true := by decide +kernel
set_option maxRecDepth 1000000 in
theorem okm_63 : (List.range' 63 9).all ck_m = true := by decide +kernel
set_option maxRecDepth 1000000 in
theorem okm_72 : (List.range' 72 9).all ck_m = true := by decide +kernel
set_option maxRecDepth 1000000 in
theorem okm_81 : (List.range' 81 9).all ck_m = true := by decide +kernel
set_option maxRecDepth 1000000 in
theorem okm_90 : (List.range' 90 9).all ck_m = true := by decide +kernel
set_option maxRecDepth 1000000 in
theorem okm_99 : (List.range' 99 9).all ck_m = true := by decide +kernel
set_option maxRecDepth 1000000 in
theorem okm_108 : (List.range' 108 9).all ck_m = true := by decide +kernel
set_option maxRecDepth 1000000 in
theorem okm_117 : (List.range' 117 9).all ck_m = true := by decide +kernel
set_option maxRecDepth 1000000 in
theorem okm_126 : (List.range' 126 9).all ck_m = true := by decide +kernel
set_option maxRecDepth 1000000 in
theorem okm_135 : (List.range' 135 9).all ck_m = true := by decide +kernel
set_option maxRecDepth 1000000 in
theorem okm_144 : (List.range' 144 9).all ck_m = true := by decide +kernel
end
section
/-! The check, computed (1). -/
set_option maxRecDepth 1000000 in
theorem okj_0 : (List.range' 0 3).all ck_j = true := by decide +kernel
set_option maxRecDepth 1000000 in
theorem okj_3 : (List.range' 3 3).all ck_j = true := by decide +kernel
set_option maxRecDepth 1000000 in
theorem okj_6 : (List.range' 6 3).all ck_j = true := by decide +kernel
set_option maxRecDepth 1000000 in
theorem okj_9 : (List.range' 9 3).all ck_j = true := by decide +kernel
set_option maxRecDepth 1000000 in
theorem okj_12 : (List.range' 12 3).all ck_j = true := by decide +kernel
set_option maxRecDepth 1000000 in
theorem okj_15 : (List.range' 15 3).all ck_j = true := by decide +kernel
set_option maxRecDepth 1000000 in
theorem okj_18 : (List.range' 18 3).all ck_j = true := by decide +kernel
set_option maxRecDepth 1000000 in
theorem okj_21 : (List.range' 21 3).all ck_j = true := by decide +kernel
set_option maxRecDepth 1000000 in
theorem okj_24 : (List.range' 24 3).all ck_j = true := by decide +kernel
set_option maxRecDepth 1000000 in
theorem okj_27 : (List.range' 27 3).all ck_j = true := by decide +kernel
set_option maxRecDepth 1000000 in
theorem okj_30 : (List.range' 30 3).all ck_j = true := by decide +kernel
set_option maxRecDepth 1000000 in
theorem okj_33 : (List.range' 33 3).all ck_j = true := by decide +kernel
set_option maxRecDepth 1000000 in
theorem okj_36 : (List.range' 36 3).all ck_j = true := by decide +kernel
end
section
/-! The check, computed (2). -/
set_option maxRecDepth 1000000 in
theorem okj_39 : (List.range' 39 3).all ck_j = true := by decide +kernel
set_option maxRecDepth 1000000 in
theorem okj_42 : (List.range' 42 3).all ck_j = true := by decide +kernel
set_option maxRecDepth 1000000 in
theorem okj_45 : (List.range' 45 3).all ck_j = true := by decide +kernel
set_option maxRecDepth 1000000 in
theorem okj_48 : (List.range' 48 3).all ck_j = true := by decide +kernel
set_option maxRecDepth 1000000 in
theorem okj_51 : (List.range' 51 3).all ck_j = true := by decide +kernel
set_option maxRecDepth 1000000 in
theorem okj_54 : (List.range' 54 3).all ck_j = true := by decide +kernel
set_option maxRecDepth 1000000 in
theorem okj_57 : (List.range' 57 3).all ck_j = true := by decide +kernel
set_option maxRecDepth 1000000 in
theorem okj_60 : (List.range' 60 3).all ck_j = true := by decide +kernel
set_option maxRecDepth 1000000 in
theorem okj_63 : (List.range' 63 3).all ck_j = true := by decide +kernel
set_option maxRecDepth 1000000 in
theorem okj_66 : (List.range' 66 3).all ck_j = true := by decide +kernel
set_option maxRecDepth 1000000 in
theorem okj_69 : (List.range' 69 3).all ck_j = true := by decide +kernel
set_option maxRecDepth 1000000 in
theorem okj_72 : (List.range' 72 3).all ck_j = true := by decide +kernel
set_option maxRecDepth 1000000 in
theorem okj_75 : (List.range' 75 3).all ck_j = true := by decide +kernel
end
section
/-! The check, computed (3). -/
set_option maxRecDepth 1000000 in
theorem okj_78 : (List.range' 78 3).all ck_j = true := by decide +kernel
set_option maxRecDepth 1000000 in
theorem okj_81 : (List.range' 81 3).all ck_j = true := by decide +kernel
set_option maxRecDepth 1000000 in
theorem okj_84 : (List.range' 84 3).all ck_j = true := by decide +kernel
set_option maxRecDepth 1000000 in
theorem okj_87 : (List.range' 87 3).all ck_j = true := by decide +kernel
set_option maxRecDepth 1000000 in
theorem okj_90 : (List.range' 90 3).all ck_j = true := by decide +kernel
set_option maxRecDepth 1000000 in
theorem okj_93 : (List.range' 93 3).all ck_j = true := by decide +kernel
set_option maxRecDepth 1000000 in
theorem okj_96 : (List.range' 96 3).all ck_j = true := by decide +kernel
set_option maxRecDepth 1000000 in
theorem okj_99 : (List.range' 99 3).all ck_j = true := by decide +kernel
set_option maxRecDepth 1000000 in
theorem okj_102 : (List.range' 102 3).all ck_j = true := by decide +kernel
set_option maxRecDepth 1000000 in
theorem okj_105 : (List.range' 105 3).all ck_j = true := by decide +kernel
set_option maxRecDepth 1000000 in
theorem okj_108 : (List.range' 108 3).all ck_j = true := by decide +kernel
set_option maxRecDepth 1000000 in
theorem okj_111 : (List.range' 111 3).all ck_j = true := by decide +kernel
set_option maxRecDepth 1000000 in
theorem okj_114 : (List.range' 114 3).all ck_j = true := by decide +kernel
end
section
/-! The check, computed (4). -/
set_option maxRecDepth 1000000 in
theorem okj_117 : (List.range' 117 3).all ck_j = true := by decide +kernel
set_option maxRecDepth 1000000 in
theorem okj_120 : (List.range' 120 3).all ck_j = true := by decide +kernel
set_option maxRecDepth 1000000 in
theorem okj_123 : (List.range' 123 3).all ck_j = true := by decide +kernel
set_option maxRecDepth 1000000 in
theorem okj_126 : (List.range' 126 3).all ck_j = true := by decide +kernel
set_option maxRecDepth 1000000 in
theorem okj_129 : (List.range' 129 3).all ck_j = true := by decide +kernel
set_option maxRecDepth 1000000 in
theorem okj_132 : (List.range' 132 3).all ck_j = true := by decide +kernel
set_option maxRecDepth 1000000 in
theorem okj_135 : (List.range' 135 3).all ck_j = true := by decide +kernel
set_option maxRecDepth 1000000 in
theorem okj_138 : (List.range' 138 3).all ck_j = true := by decide +kernel
set_option maxRecDepth 1000000 in
theorem okj_141 : (List.range' 141 3).all ck_j = true := by decide +kernel
set_option maxRecDepth 1000000 in
theorem okj_144 : (List.range' 144 3).all ck_j = true := by decide +kernel
set_option maxRecDepth 1000000 in
theorem okj_147 : (List.range' 147 3).all ck_j = true := by decide +kernel
set_option maxRecDepth 1000000 in
theorem okj_150 : (List.range' 150 3).all ck_j = true := by decide +kernel
end
section
/-! The tables hold. -/
theorem okc_all : ∀ j, j < 153 → ck_c j
  | 0, _ => okc_0
  | 1, _ => okc_1
  | 2, _ => okc_2
  | 3, _ => okc_3
  | 4, _ => okc_4
  | 5, _ => okc_5
  | 6, _ => okc_6
  | 7, _ => okc_7
  | 8, _ => okc_8
  | 9, _ => okc_9
  | 10, _ => okc_10
  | 11, _ => okc_11
  | 12, _ => okc_12
  | 13, _ => okc_13
  | 14, _ => okc_14
  | 15, _ => okc_15
  | 16, _ => okc_16
  | 17, _ => okc_17
  | 18, _ => okc_18
  | 19, _ => okc_19
  | 20, _ => okc_20
  | 21, _ => okc_21
  | 22, _ => okc_22
  | 23, _ => okc_23
  | 24, _ => okc_24
  | 25, _ => okc_25
  | 26, _ => okc_26
  | 27, _ => okc_27
  | 28, _ => okc_28
  | 29, _ => okc_29
  | 30, _ => okc_30
  | 31, _ => okc_31
  | 32, _ => okc_32
  | 33, _ => okc_33
  | 34, _ => okc_34
  | 35, _ => okc_35
  | 36, _ => okc_36
  | 37, _ => okc_37
  | 38, _ => okc_38
  | 39, _ => okc_39
  | 40, _ => okc_40
  | 41, _ => okc_41
  | 42, _ => okc_42
  | 43, _ => okc_43
  | 44, _ => okc_44
  | 45, _ => okc_45
  | 46, _ => okc_46
  | 47, _ => okc_47
  | 48, _ => okc_48
  | 49, _ => okc_49
  | 50, _ => okc_50
  | 51, _ => okc_51
  | 52, _ => okc_52
  | 53, _ => okc_53
  | 54, _ => okc_54
  | 55, _ => okc_55
  | 56, _ => okc_56
  | 57, _ => okc_57
  | 58, _ => okc_58
  | 59, _ => okc_59
  | 60, _ => okc_60
  | 61, _ => okc_61
  | 62, _ => okc_62
  | 63, _ => okc_63
  | 64, _ => okc_64
  | 65, _ => okc_65
  | 66, _ => okc_66
  | 67, _ => okc_67
  | 68, _ => okc_68
  | 69, _ => okc_69
  | 70, _ => okc_70
  | 71, _ => okc_71
  | 72, _ => okc_72
  | 73, _ => okc_73
  | 74, _ => okc_74
  | 75, _ => okc_75
  | 76, _ => okc_76
  | 77, _ => okc_77
  | 78, _ => okc_78
  | 79, _ => okc_79
  | 80, _ => okc_80
  | 81, _ => okc_81
  | 82, _ => okc_82
  | 83, _ => okc_83
  | 84, _ => okc_84
  | 85, _ => okc_85
  | 86, _ => okc_86
  | 87, _ => okc_87
  | 88, _ => okc_88
  | 89, _ => okc_89
  | 90, _ => okc_90
  | 91, _ => okc_91
  | 92, _ => okc_92
  | 93, _ => okc_93
  | 94, _ => okc_94
  | 95, _ => okc_95
  | 96, _ => okc_96
  | 97, _ => okc_97
  | 98, _ => okc_98
  | 99, _ => okc_99
  | 100, _ => okc_100
  | 101, _ => okc_101
  | 102, _ => okc_102
  | 103, _ => okc_103
  | 104, _ => okc_104
  | 105, _ => okc_105
  | 106, _ => okc_106
  | 107, _ => okc_107
  | 108, _ => okc_108
  | 109, _ => okc_109
  | 110, _ => okc_110
  | 111, _ => okc_111
  | 112, _ => okc_112
  | 113, _ => okc_113
  | 114, _ => okc_114
  | 115, _ => okc_115
  | 116, _ => okc_116
  | 117, _ => okc_117
  | 118, _ => okc_118
  | 119, _ => okc_119
  | 120, _ => okc_120
  | 121, _ => okc_121
  | 122, _ => okc_122
  | 123, _ => okc_123
  | 124, _ => okc_124
  | 125, _ => okc_125
  | 126, _ => okc_126
  | 127, _ => okc_127
  | 128, _ => okc_128
  | 129, _ => okc_129
  | 130, _ => okc_130
  | 131, _ => okc_131
  | 132, _ => okc_132
  | 133, _ => okc_133
  | 134, _ => okc_134
  | 135, _ => okc_135
  | 136, _ => okc_136
  | 137, _ => okc_137
  | 138, _ => okc_138
  | 139, _ => okc_139
  | 140, _ => okc_140
  | 141, _ => okc_141
  | 142, _ => okc_142
  | 143, _ => okc_143
  | 144, _ => okc_144
  | 145, _ => okc_145
  | 146, _ => okc_146
  | 147, _ => okc_147
  | 148, _ => okc_148
  | 149, _ => okc_149
  | 150, _ => okc_150
  | 151, _ => okc_151
  | 152, _ => okc_152
  | j + 153, h => absurd h (by omega)
theorem okm_all : ∀ j, j < 153 → ck_m j = true := by
  intro j hj
  by_cases q0 : j < 9
  · exact List.all_eq_true.mp okm_0 j (List.mem_range'_1.mpr (by omega))
  by_cases q9 : j < 18
  · exact List.all_eq_true.mp okm_9 j (List.mem_range'_1.mpr (by omega))
  by_cases q18 : j < 27
  · exact List.all_eq_true.mp okm_18 j (List.mem_range'_1.mpr (by omega))
  by_cases q27 : j < 36
  · exact List.all_eq_true.mp okm_27 j (List.mem_range'_1.mpr (by omega))
  by_cases q36 : j < 45
  · exact List.all_eq_true.mp okm_36 j (List.mem_range'_1.mpr (by omega))
  by_cases q45 : j < 54
  · exact List.all_eq_true.mp okm_45 j (List.mem_range'_1.mpr (by omega))
  by_cases q54 : j < 63
  · exact List.all_eq_true.mp okm_54 j (List.mem_range'_1.mpr (by omega))
  by_cases q63 : j < 72
  · exact List.all_eq_true.mp okm_63 j (List.mem_range'_1.mpr (by omega))
  by_cases q72 : j < 81
  · exact List.all_eq_true.mp okm_72 j (List.mem_range'_1.mpr (by omega))
  by_cases q81 : j < 90
  · exact List.all_eq_true.mp okm_81 j (List.mem_range'_1.mpr (by omega))
  by_cases q90 : j < 99
  · exact List.all_eq_true.mp okm_90 j (List.mem_range'_1.mpr (by omega))
  by_cases q99 : j < 108
  · exact List.all_eq_true.mp okm_99 j (List.mem_range'_1.mpr (by omega))
  by_cases q108 : j < 117
  · exact List.all_eq_true.mp okm_108 j (List.mem_range'_1.mpr (by omega))
  by_cases q117 : j < 126
  · exact List.all_eq_true.mp okm_117 j (List.mem_range'_1.mpr (by omega))
  by_cases q126 : j < 135
  · exact List.all_eq_true.mp okm_126 j (List.mem_range'_1.mpr (by omega))
  by_cases q135 : j < 144
  · exact List.all_eq_true.mp okm_135 j (List.mem_range'_1.mpr (by omega))
  exact List.all_eq_true.mp okm_144 j (List.mem_range'_1.mpr (by omega))
theorem okj_all : ∀ j, j < 153 → ck_j j = true := by
  intro j hj
  by_cases q0 : j < 3
  · exact List.all_eq_true.mp okj_0 j (List.mem_range'_1.mpr (by omega))
  by_cases q3 : j < 6
  · exact List.all_eq_true.mp okj_3 j (List.mem_range'_1.mpr (by omega))
  by_cases q6 : j < 9
  · exact List.all_eq_true.mp okj_6 j (List.mem_range'_1.mpr (by omega))
  by_cases q9 : j < 12
  · exact List.all_eq_true.mp okj_9 j (List.mem_range'_1.mpr (by omega))
  by_cases q12 : j < 15
  · exact List.all_eq_true.mp okj_12 j (List.mem_range'_1.mpr (by omega))
  by_cases q15 : j < 18
  · exact List.all_eq_true.mp okj_15 j (List.mem_range'_1.mpr (by omega))
  by_cases q18 : j < 21
  · exact List.all_eq_true.mp okj_18 j (List.mem_range'_1.mpr (by omega))
  by_cases q21 : j < 24
  · exact List.all_eq_true.mp okj_21 j (List.mem_range'_1.mpr (by omega))
  by_cases q24 : j < 27
  · exact List.all_eq_true.mp okj_24 j (List.mem_range'_1.mpr (by omega))
  by_cases q27 : j < 30
  · exact List.all_eq_true.mp okj_27 j (List.mem_range'_1.mpr (by omega))
  by_cases q30 : j < 33
  · exact List.all_eq_true.mp okj_30 j (List.mem_range'_1.mpr (by omega))
  by_cases q33 : j < 36
  · exact List.all_eq_true.mp okj_33 j (List.mem_range'_1.mpr (by omega))
  by_cases q36 : j < 39
  · exact List.all_eq_true.mp okj_36 j (List.mem_range'_1.mpr (by omega))
  by_cases q39 : j < 42
  · exact List.all_eq_true.mp okj_39 j (List.mem_range'_1.mpr (by omega))
  by_cases q42 : j < 45
  · exact List.all_eq_true.mp okj_42 j (List.mem_range'_1.mpr (by omega))
  by_cases q45 : j < 48
  · exact List.all_eq_true.mp okj_45 j (List.mem_range'_1.mpr (by omega))
  by_cases q48 : j < 51
  · exact List.all_eq_true.mp okj_48 j (List.mem_range'_1.mpr (by omega))
  by_cases q51 : j < 54
  · exact List.all_eq_true.mp okj_51 j (List.mem_range'_1.mpr (by omega))
  by_cases q54 : j < 57
  · exact List.all_eq_true.mp okj_54 j (List.mem_range'_1.mpr (by omega))
  by_cases q57 : j < 60
  · exact List.all_eq_true.mp okj_57 j (List.mem_range'_1.mpr (by omega))
  by_cases q60 : j < 63
  · exact List.all_eq_true.mp okj_60 j (List.mem_range'_1.mpr (by omega))
  by_cases q63 : j < 66
  · exact List.all_eq_true.mp okj_63 j (List.mem_range'_1.mpr (by omega))
  by_cases q66 : j < 69
  · exact List.all_eq_true.mp okj_66 j (List.mem_range'_1.mpr (by omega))
  by_cases q69 : j < 72
  · exact List.all_eq_true.mp okj_69 j (List.mem_range'_1.mpr (by omega))
  by_cases q72 : j < 75
  · exact List.all_eq_true.mp okj_72 j (List.mem_range'_1.mpr (by omega))
  by_cases q75 : j < 78
  · exact List.all_eq_true.mp okj_75 j (List.mem_range'_1.mpr (by omega))
  by_cases q78 : j < 81
  · exact List.all_eq_true.mp okj_78 j (List.mem_range'_1.mpr (by omega))
  by_cases q81 : j < 84
  · exact List.all_eq_true.mp okj_81 j (List.mem_range'_1.mpr (by omega))
  by_cases q84 : j < 87
  · exact List.all_eq_true.mp okj_84 j (List.mem_range'_1.mpr (by omega))
  by_cases q87 : j < 90
  · exact List.all_eq_true.mp okj_87 j (List.mem_range'_1.mpr (by omega))
  by_cases q90 : j < 93
  · exact List.all_eq_true.mp okj_90 j (List.mem_range'_1.mpr (by omega))
  by_cases q93 : j < 96
  · exact List.all_eq_true.mp okj_93 j (List.mem_range'_1.mpr (by omega))
  by_cases q96 : j < 99
  · exact List.all_eq_true.mp okj_96 j (List.mem_range'_1.mpr (by omega))
  by_cases q99 : j < 102
  · exact List.all_eq_true.mp okj_99 j (List.mem_range'_1.mpr (by omega))
  by_cases q102 : j < 105
  · exact List.all_eq_true.mp okj_102 j (List.mem_range'_1.mpr (by omega))
  by_cases q105 : j < 108
  · exact List.all_eq_true.mp okj_105 j (List.mem_range'_1.mpr (by omega))
  by_cases q108 : j < 111
  · exact List.all_eq_true.mp okj_108 j (List.mem_range'_1.mpr (by omega))
  by_cases q111 : j < 114
  · exact List.all_eq_true.mp okj_111 j (List.mem_range'_1.mpr (by omega))
  by_cases q114 : j < 117
  · exact List.all_eq_true.mp okj_114 j (List.mem_range'_1.mpr (by omega))
  by_cases q117 : j < 120
  · exact List.all_eq_true.mp okj_117 j (List.mem_range'_1.mpr (by omega))
  by_cases q120 : j < 123
  · exact List.all_eq_true.mp okj_120 j (List.mem_range'_1.mpr (by omega))
  by_cases q123 : j < 126
  · exact List.all_eq_true.mp okj_123 j (List.mem_range'_1.mpr (by omega))
  by_cases q126 : j < 129
  · exact List.all_eq_true.mp okj_126 j (List.mem_range'_1.mpr (by omega))
  by_cases q129 : j < 132
  · exact List.all_eq_true.mp okj_129 j (List.mem_range'_1.mpr (by omega))
  by_cases q132 : j < 135
  · exact List.all_eq_true.mp okj_132 j (List.mem_range'_1.mpr (by omega))
  by_cases q135 : j < 138
  · exact List.all_eq_true.mp okj_135 j (List.mem_range'_1.mpr (by omega))
  by_cases q138 : j < 141
  · exact List.all_eq_true.mp okj_138 j (List.mem_range'_1.mpr (by omega))
  by_cases q141 : j < 144
  · exact List.all_eq_true.mp okj_141 j (List.mem_range'_1.mpr (by omega))
  by_cases q144 : j < 147
  · exact List.all_eq_true.mp okj_144 j (List.mem_range'_1.mpr (by omega))
  by_cases q147 : j < 150
  · exact List.all_eq_true.mp okj_147 j (List.mem_range'_1.mpr (by omega))
  exact List.all_eq_true.mp okj_150 j (List.mem_range'_1.mpr (by omega))
theorem ax_m153 : am_m153 := by
  intro j C mL N hj hN
  have hlt : j < 153 := (List.getElem?_eq_some_iff.mp hj).1
  have h := okm_all j hlt
  unfold ck_m at h
  rw [hj, hN] at h
  simp only [Bool.and_eq_true, decide_eq_true_eq] at h
  exact ⟨List.mem_filter.mpr ⟨okc_all j hlt C mL N hj hN, rfl⟩, ck_w_ok h.1, h.2.1, h.2.2.1, h.2.2.2⟩
set_option maxRecDepth 1000000 in
theorem ax_u0 : (u_ws RX0 TX0 11).all (fun w => decide (w ∈ lw_tbl) && goodWord w) = true := by decide +kernel
theorem ax_k0 : ∀ k, k < 11 → am_tk (ac_ft 0 k) (tyX0 k) = true := by decide +kernel
set_option maxRecDepth 1000000 in
theorem ax_u1 : (u_ws RX1 TX1 5).all (fun w => decide (w ∈ lw_tbl) && goodWord w) = true := by decide +kernel
theorem ax_k1 : ∀ k, k < 5 → am_tk (ac_ft 1 k) (tyX1 k) = true := by decide +kernel
set_option maxRecDepth 1000000 in
theorem ax_u2 : (u_ws RX2 TX2 7).all (fun w => decide (w ∈ lw_tbl) && goodWord w) = true := by decide +kernel
theorem ax_k2 : ∀ k, k < 7 → am_tk (ac_ft 2 k) (tyX2 k) = true := by decide +kernel
set_option maxRecDepth 1000000 in
theorem ax_u3 : (u_ws RX3 TX3 5).all (fun w => decide (w ∈ lw_tbl) && goodWord w) = true := by decide +kernel
theorem ax_k3 : ∀ k, k < 5 → am_tk (ac_ft 3 k) (tyX3 k) = true := by decide +kernel
set_option maxRecDepth 1000000 in
theorem ax_u4 : (u_ws RX4 TX4 5).all (fun w => decide (w ∈ lw_tbl) && goodWord w) = true := by decide +kernel
theorem ax_k4 : ∀ k, k < 5 → am_tk (ac_ft 4 k) (tyX4 k) = true := by decide +kernel
set_option maxRecDepth 1000000 in
theorem ax_u5 : (u_ws RX5 TX5 27).all (fun w => decide (w ∈ lw_tbl) && goodWord w) = true := by decide +kernel
theorem ax_k5 : ∀ k, k < 27 → am_tk (ac_ft 5 k) (tyX5 k) = true := by decide +kernel
theorem ax_mem {l : List Cond} (h : l.all (fun w => decide (w ∈ lw_tbl) && goodWord w) = true) : ∀ w ∈ l, w ∈ am_Tb := fun w hw => by
  have := List.all_eq_true.mp h w hw
  simp only [Bool.and_eq_true, decide_eq_true_eq] at this
  exact List.mem_filter.mpr this
theorem ax_cl6 : am_cl6 := by
  intro x C T N h
  match x, h with
  | 0, h => cases h; exact ⟨ax_mem ax_u0, tyX0_ok, nmX0, ax_k0⟩
  | 1, h => cases h; exact ⟨ax_mem ax_u1, tyX1_ok, nmX1, ax_k1⟩
  | 2, h => cases h; exact ⟨ax_mem ax_u2, tyX2_ok, nmX2, ax_k2⟩
  | 3, h => cases h; exact ⟨ax_mem ax_u3, tyX3_ok, nmX3, ax_k3⟩
  | 4, h => cases h; exact ⟨ax_mem ax_u4, tyX4_ok, nmX4, ax_k4⟩
  | 5, h => cases h; exact ⟨ax_mem ax_u5, tyX5_ok, nmX5, ax_k5⟩
  | x + 6, h => simp [vwCl] at h
/-- THE CODE TABLES ARE THE BYTES' -/
theorem ax_Ok : am_Ok ac_P ax_N am_Tb := am_Ok_of ax_cl6 ax_m153 okj_all
/-- a run of the small machine over the claim's code is a contract -/
theorem ax_sound {l : Launch} {D : va_G} {ca : Nat → ClassId} (n : Nat) : am_SS ac_P ax_N am_Tb l D ca n := am_sound ax_Ok n
end
section
/-! Runs of the small machine over the claim's code, backwards: rules. -/
/-- from t, in a method with code C, the run ends, and Z holds of its answer and heap -/
def am_E (C : am_C) (t : am_S) (Z : Option am_V → am_H → Prop) : Prop := ∃ (n : Nat) (r : Option am_V) (h2 : am_H), am_x ac_P n C t = some (r, h2) ∧ Z r h2
theorem am_x_s {P : am_P} {n : Nat} {C : am_C} {t t2 : am_S} (h : am_1 P.1 C t = some (.inl t2)) : am_x P (n + 1) C t = am_x P n C t2 := by
  rw [am_x, h]
theorem am_x_r {P : am_P} {n : Nat} {C : am_C} {t : am_S} {q : Option am_V × am_H} (h : am_1 P.1 C t = some (.inr (.inr q))) : am_x P (n + 1) C t = some q := by
  rw [am_x, h]
theorem am_x_up {P : am_P} : ∀ (n : Nat) {C : am_C} {t : am_S} {q : Option am_V × am_H}, am_x P n C t = some q → am_x P (n + 1) C t = some q
  | 0, C, t, q, h => by cases h
  | n + 1, C, t, q, h => by
    rw [am_x] at h ⊢
    split at h
    · cases h
    · rename_i t2 e1
      exact am_x_up n h
    · rename_i q2 e1
      split at h
      · cases h
      · rename_i M hM
        split at h
        · rename_i hc
          split at h
          · cases h
          · rename_i r2 h3
            have e5 := am_x_up n h3
            have e6 := am_x_up n h
            simp only [e1, hM, if_pos hc, e5]
            exact e6
        · cases h
    · rename_i q2 e1
      exact h
theorem am_x_le {P : am_P} {n : Nat} {C : am_C} {t : am_S} {q : Option am_V × am_H} (h : am_x P n C t = some q) : ∀ k, am_x P (n + k) C t = some q
  | 0 => h
  | k + 1 => am_x_up (n + k) (am_x_le h k)
theorem am_E.imp {C : am_C} {t : am_S} {Z Z2 : Option am_V → am_H → Prop} (h : am_E C t Z) (hz : ∀ r h2, Z r h2 → Z2 r h2) : am_E C t Z2 := by
  obtain ⟨n, r, h2, h3, h4⟩ := h
  exact ⟨n, r, h2, h3, hz r h2 h4⟩
theorem am_E.go {C : am_C} {pc : Nat} {ls st : List am_V} {h : am_H} {row : am_I} {t2 : am_S} {Z : Option am_V → am_H → Prop} (hrow : am_row C pc = some row) (hs : am_sem ac_ft row.1 row.2.1 row.2.2.1 row.2.2.2 (pc, ls, st, h) = some (.inl t2)) (k : am_E C t2 Z) : am_E C (pc, ls, st, h) Z := by
  obtain ⟨n, r, h2, h3, h4⟩ := k
  refine ⟨n + 1, r, h2, ?_, h4⟩
  rw [am_x_s (t2 := t2)]
  · exact h3
  · unfold am_1
    rw [hrow]
    exact hs
theorem am_E.ret {C : am_C} {pc : Nat} {ls st : List am_V} {h : am_H} {row : am_I} {r : Option am_V} {h2 : am_H} {Z : Option am_V → am_H → Prop} (hrow : am_row C pc = some row) (hs : am_sem ac_ft row.1 row.2.1 row.2.2.1 row.2.2.2 (pc, ls, st, h) = some (.inr (.inr (r, h2)))) (k : Z r h2) : am_E C (pc, ls, st, h) Z := by
  refine ⟨1, r, h2, am_x_r ?_, k⟩
  unfold am_1
  rw [hrow]
  exact hs
theorem am_E.call {C : am_C} {pc : Nat} {ls st : List am_V} {h : am_H} {row : am_I} {q : Nat × List am_V × am_S} {M : am_C × Nat} {Z Z2 : Option am_V → am_H → Prop} (hrow : am_row C pc = some row) (hs : am_sem ac_ft row.1 row.2.1 row.2.2.1 row.2.2.2 (pc, ls, st, h) = some (.inr (.inl q))) (hM : ac_L[q.1]? = some M) (hc : (q.2.1.map am_cat).sum ≤ M.2)
    (hk : am_E M.1 (0, am_pad M.2 q.2.1, [], q.2.2.2.2.2) Z2) (k : ∀ r h2, Z2 r h2 → am_E C (q.2.2.1, q.2.2.2.1, r.toList ++ q.2.2.2.2.1, h2) Z) : am_E C (pc, ls, st, h) Z := by
  obtain ⟨n, r, h2, h3, h4⟩ := hk
  obtain ⟨n5, r5, h5, h6, h7⟩ := k r h2 h4
  refine ⟨(n + n5) + 1, r5, h5, ?_, h7⟩
  have e1 : am_1 ac_P.1 C (pc, ls, st, h) = some (.inr (.inl q)) := by
    unfold am_1
    rw [hrow]
    exact hs
  have e2 : ac_P.2[q.1]? = some M := hM
  have e3 := am_x_le h3 n5
  have e4 := am_x_le h6 n
  rw [Nat.add_comm n5 n] at e4
  rw [am_x, e1]
  simp only []
  rw [e2]
  simp only []
  rw [if_pos hc, e3]
  exact e4
end
section
/-! Small methods. -/
theorem rn_isStrands (n : Int) (h : am_H) : am_E ac_X4_isStrands (0, [vI n], [], h) (fun r h2 => r = some (vI (if 1 ≤ n ∧ n ≤ 4 then 1 else 0)) ∧ h2 = h) := by
  refine am_E.go rfl rfl ?_; dsimp only [Nat.reduceAdd]
  refine am_E.go rfl rfl ?_; dsimp only [Nat.reduceAdd]
  refine am_E.go rfl rfl ?_; dsimp only [Nat.reduceAdd]
  by_cases h1 : n < 1
  · rw [show am_cmp .lt n 1 = true by simp [am_cmp, h1]]
    refine am_E.go rfl rfl ?_; dsimp only [Nat.reduceAdd]
    refine am_E.ret rfl rfl ?_
    rw [if_neg (by omega)]
    exact ⟨rfl, rfl⟩
  · rw [show am_cmp .lt n 1 = false by simp [am_cmp]; omega]
    refine am_E.go rfl rfl ?_; dsimp only [Nat.reduceAdd]
    refine am_E.go rfl rfl ?_; dsimp only [Nat.reduceAdd]
    refine am_E.go rfl rfl ?_; dsimp only [Nat.reduceAdd]
    by_cases h2 : 4 < n
    · rw [show am_cmp .gt n 4 = true by simp [am_cmp, h2]]
      refine am_E.go rfl rfl ?_; dsimp only [Nat.reduceAdd]
      refine am_E.ret rfl rfl ?_
      rw [if_neg (by omega)]
      exact ⟨rfl, rfl⟩
    · rw [show am_cmp .gt n 4 = false by simp [am_cmp]; omega]
      refine am_E.go rfl rfl ?_; dsimp only [Nat.reduceAdd]
      refine am_E.go rfl rfl ?_; dsimp only [Nat.reduceAdd]
      refine am_E.ret rfl rfl ?_
      rw [if_pos (by omega)]
      exact ⟨rfl, rfl⟩
theorem rn_in (v lo hi : Int) (h : am_H) : am_E ac_X5_in (0, [vL v, vU, vL lo, vU, vL hi, vU], [], h) (fun r h2 => r = some (vI (if lo ≤ v ∧ v ≤ hi then 1 else 0)) ∧ h2 = h) := by
  iterate 4 (refine am_E.go rfl rfl ?_; dsimp only [Nat.reduceAdd])
  by_cases h1 : v < lo
  · rw [show am_cmp .lt (if v < lo then -1 else if v = lo then 0 else 1) 0 = true by simp [am_cmp, h1]]
    iterate 1 (refine am_E.go rfl rfl ?_; dsimp only [Nat.reduceAdd])
    refine am_E.ret rfl rfl ?_
    rw [if_neg (by omega)]
    exact ⟨rfl, rfl⟩
  · rw [show am_cmp .lt (if v < lo then -1 else if v = lo then 0 else 1) 0 = false by rw [if_neg h1]; split <;> rfl]
    iterate 4 (refine am_E.go rfl rfl ?_; dsimp only [Nat.reduceAdd])
    by_cases h2 : hi < v
    · rw [show am_cmp .gt (if v < hi then -1 else if v = hi then 0 else 1) 0 = true by rw [if_neg (by omega), if_neg (by omega)]; rfl]
      iterate 1 (refine am_E.go rfl rfl ?_; dsimp only [Nat.reduceAdd])
      refine am_E.ret rfl rfl ?_
      rw [if_neg (by omega)]
      exact ⟨rfl, rfl⟩
    · rw [show am_cmp .gt (if v < hi then -1 else if v = hi then 0 else 1) 0 = false by split <;> (try split) <;> first | rfl | omega]
      iterate 2 (refine am_E.go rfl rfl ?_; dsimp only [Nat.reduceAdd])
      refine am_E.ret rfl rfl ?_
      rw [if_pos (by omega)]
      exact ⟨rfl, rfl⟩
theorem rn_isWide (n : Int) (h : am_H) : am_E ac_X5_isWide (0, [vI n], [], h) (fun r h2 => r = some (vI (if 1 ≤ n ∧ n ≤ 4 then 1 else 0)) ∧ h2 = h) := by
  iterate 4 (refine am_E.go rfl rfl ?_; dsimp only [Nat.reduceAdd])
  refine am_E.call rfl rfl rfl (Nat.le_of_ble_eq_true rfl) (rn_in n 1 4 h) ?_
  rintro r h2 ⟨rfl, rfl⟩
  show am_E _ (9, [vI n], [vI (if 1 ≤ n ∧ n ≤ 4 then 1 else 0)], h2) _
  by_cases q : 1 ≤ n ∧ n ≤ 4
  · rw [if_pos q]
    exact am_E.ret rfl rfl ⟨rfl, rfl⟩
  · rw [if_neg q]
    exact am_E.ret rfl rfl ⟨rfl, rfl⟩
theorem rn_boxes (n : Int) (h : am_H) : am_E ac_X5_boxes (0, [vI n], [], h) (fun r h2 => r = some (vI (if n = 1 then 1 else if n = 2 then 3 else if n = 3 then 15 else 105)) ∧ h2 = h) := by
  iterate 3 (refine am_E.go rfl rfl ?_; dsimp only [Nat.reduceAdd])
  by_cases h1 : n = 1
  · rw [show am_cmp .ne n 1 = false by simp [am_cmp, h1], if_pos h1]
    iterate 2 (refine am_E.go rfl rfl ?_; dsimp only [Nat.reduceAdd])
    exact am_E.ret rfl rfl ⟨rfl, rfl⟩
  · rw [show am_cmp .ne n 1 = true by simp [am_cmp, h1], if_neg h1]
    iterate 3 (refine am_E.go rfl rfl ?_; dsimp only [Nat.reduceAdd])
    by_cases h2 : n = 2
    · rw [show am_cmp .ne n 2 = false by simp [am_cmp, h2], if_pos h2]
      iterate 2 (refine am_E.go rfl rfl ?_; dsimp only [Nat.reduceAdd])
      exact am_E.ret rfl rfl ⟨rfl, rfl⟩
    · rw [show am_cmp .ne n 2 = true by simp [am_cmp, h2], if_neg h2]
      iterate 3 (refine am_E.go rfl rfl ?_; dsimp only [Nat.reduceAdd])
      by_cases h3 : n = 3
      · rw [show am_cmp .ne n 3 = false by simp [am_cmp, h3], if_pos h3]
        iterate 2 (refine am_E.go rfl rfl ?_; dsimp only [Nat.reduceAdd])
        exact am_E.ret rfl rfl ⟨rfl, rfl⟩
      · rw [show am_cmp .ne n 3 = true by simp [am_cmp, h3], if_neg h3]
        iterate 1 (refine am_E.go rfl rfl ?_; dsimp only [Nat.reduceAdd])
        exact am_E.ret rfl rfl ⟨rfl, rfl⟩
theorem rn_first (n : Int) (h : am_H) : am_E ac_X5_first (0, [vI n], [], h) (fun r h2 => r = some (vI (if n = 1 then 0 else if n = 2 then 1 else if n = 3 then 4 else 19)) ∧ h2 = h) := by
  iterate 3 (refine am_E.go rfl rfl ?_; dsimp only [Nat.reduceAdd])
  by_cases h1 : n = 1
  · rw [show am_cmp .ne n 1 = false by simp [am_cmp, h1], if_pos h1]
    iterate 2 (refine am_E.go rfl rfl ?_; dsimp only [Nat.reduceAdd])
    exact am_E.ret rfl rfl ⟨rfl, rfl⟩
  · rw [show am_cmp .ne n 1 = true by simp [am_cmp, h1], if_neg h1]
    iterate 3 (refine am_E.go rfl rfl ?_; dsimp only [Nat.reduceAdd])
    by_cases h2 : n = 2
    · rw [show am_cmp .ne n 2 = false by simp [am_cmp, h2], if_pos h2]
      iterate 2 (refine am_E.go rfl rfl ?_; dsimp only [Nat.reduceAdd])
      exact am_E.ret rfl rfl ⟨rfl, rfl⟩
    · rw [show am_cmp .ne n 2 = true by simp [am_cmp, h2], if_neg h2]
      iterate 3 (refine am_E.go rfl rfl ?_; dsimp only [Nat.reduceAdd])
      by_cases h3 : n = 3
      · rw [show am_cmp .ne n 3 = false by simp [am_cmp, h3], if_pos h3]
        iterate 2 (refine am_E.go rfl rfl ?_; dsimp only [Nat.reduceAdd])
        exact am_E.ret rfl rfl ⟨rfl, rfl⟩
      · rw [show am_cmp .ne n 3 = true by simp [am_cmp, h3], if_neg h3]
        iterate 1 (refine am_E.go rfl rfl ?_; dsimp only [Nat.reduceAdd])
        exact am_E.ret rfl rfl ⟨rfl, rfl⟩
def b_n (n : Int) : Int := if n = 1 then 1 else if n = 2 then 3 else if n = 3 then 15 else 105
def f_n (n : Int) : Int := if n = 1 then 0 else if n = 2 then 1 else if n = 3 then 4 else 19
theorem rn_at (n b : Int) (h : am_H) : am_E ac_X5_at (0, [vI n, vI b], [], h) (fun r h2 => r = some (vI (am_w (8 * am_w (f_n n + b)))) ∧ h2 = h) := by
  iterate 2 (refine am_E.go rfl rfl ?_; dsimp only [Nat.reduceAdd])
  refine am_E.call rfl rfl rfl (Nat.le_of_ble_eq_true rfl) (rn_first n h) ?_
  rintro r h2 ⟨rfl, rfl⟩
  show am_E _ (6, [vI n, vI b], [vI (f_n n), vI 8], h2) _
  iterate 3 (refine am_E.go rfl rfl ?_; dsimp only [Nat.reduceAdd])
  exact am_E.ret rfl rfl ⟨rfl, rfl⟩
end
section
/-! Runs: what touches the cells. -/
theorem am_wr_same {h : am_H} {a i k n : Nat} {f : Nat → am_V} {v : am_V} (hc : h.2.2 a = (k, n, f)) : (am_wr h a i v).2.2 a = (k, n, am_up f i v) := by
  unfold am_wr am_up
  simp [hc]
theorem am_wr_ne {h : am_H} {a b i : Nat} {v : am_V} (hb : b ≠ a) : (am_wr h a i v).2.2 b = h.2.2 b := by
  unfold am_wr am_up
  simp [hb]
theorem am_up_s {α : Type} {f : Nat → α} {i : Nat} {v : α} : am_up f i v i = v := by simp [am_up]
theorem am_up_n {α : Type} {f : Nat → α} {i j : Nat} {v : α} (h : j ≠ i) : am_up f i v j = f j := by simp [am_up, h]
section AE
variable {C : am_C} {pc : Nat} {ls st : List am_V} {h : am_H} {Z : Option am_V → am_H → Prop}
theorem ae_gf {i x y a n : Nat} {f : Nat → am_V} {v : am_V} (hrow : am_row C pc = some (.getfield i, 3, x, y)) (ha : a < h.1) (hc : h.2.2 a = (10 + x, n, f)) (hy : y < n) (hv : f y = v) (k : am_E C (pc + 3, ls, v :: st, h) Z) : am_E C (pc, ls, vR a :: st, h) Z := by
  refine am_E.go hrow ?_ k
  show am_gf 3 x y (pc, ls, vR a :: st, h) = _
  unfold am_gf
  simp only [hc]
  rw [if_pos ⟨ha, trivial, hy⟩, hv]
theorem ae_pf {i x y a n : Nat} {f : Nat → am_V} {v : am_V} (hrow : am_row C pc = some (.putfield i, 3, x, y)) (ha : a < h.1) (hc : h.2.2 a = (10 + x, n, f)) (hy : y < n) (hv : am_fok (ac_ft x y) v = true) (k : am_E C (pc + 3, ls, st, am_wr h a y v) Z) : am_E C (pc, ls, v :: vR a :: st, h) Z := by
  refine am_E.go hrow ?_ k
  show am_pf ac_ft 3 x y (pc, ls, v :: vR a :: st, h) = _
  unfold am_pf
  simp only [hc]
  rw [if_pos ⟨ha, trivial, hy, hv⟩]
theorem ae_ald {ins : Instr} {ok : Nat → Bool} {x y a kd n j : Nat} {i : Int} {f : Nat → am_V} {v : am_V} (hrow : am_row C pc = some (ins, 1, x, y)) (hs : am_sem ac_ft ins = am_ald ok) (ha : a < h.1) (hc : h.2.2 a = (kd, n, f)) (hok : ok kd = true) (hi : i = (j : Int)) (hj : j < n) (hv : f j = v) (k : am_E C (pc + 1, ls, v :: st, h) Z) : am_E C (pc, ls, vI i :: vR a :: st, h) Z := by
  refine am_E.go hrow ?_ k
  show am_sem ac_ft ins 1 x y (pc, ls, vI i :: vR a :: st, h) = _
  rw [hs]
  unfold am_ald
  simp only [hc]
  rw [if_pos ⟨ha, hok, by omega, by omega⟩, hi, Int.toNat_natCast, hv]
theorem ae_ast {ins : Instr} {kd x y a n j : Nat} {i : Int} {f : Nat → am_V} {v : am_V} (hrow : am_row C pc = some (ins, 1, x, y)) (hs : am_sem ac_ft ins = am_ast kd kd) (ha : a < h.1) (hc : h.2.2 a = (kd, n, f)) (hi : i = (j : Int)) (hj : j < n) (hv : am_fok kd v = true) (k : am_E C (pc + 1, ls, st, am_wr h a j v) Z) : am_E C (pc, ls, v :: vI i :: vR a :: st, h) Z := by
  refine am_E.go hrow ?_ k
  show am_sem ac_ft ins 1 x y (pc, ls, v :: vI i :: vR a :: st, h) = _
  rw [hs]
  unfold am_ast
  simp only [hc]
  rw [if_pos ⟨ha, trivial, hv, by omega, by omega⟩, hi, Int.toNat_natCast]
end AE
/-- seen is all false, nothing else changes: from the loop's head, k places are done -/
theorem rn_forget_loop {o a N len : Nat} (hN : N ≤ len) (hN8 : N ≤ 8) (hoa : o ≠ a) : ∀ (d k : Nat) (h : am_H) (g f : Nat → am_V), d + k = N → o < h.1 → a < h.1 → h.2.2 o = (10, 11, g) → g 1 = vI (N : Int) → g 10 = vR a → h.2.2 a = (1, len, f) → (∀ j, j < k → f j = vI 0) →
    am_E ac_X0_forgetSeen (2, [vR o, vI (k : Int)], [], h) (fun r h2 => r = none ∧ h2.1 = h.1 ∧ h2.2.1 = h.2.1 ∧ (∀ b, b ≠ a → h2.2.2 b = h.2.2 b) ∧ ∃ f2, h2.2.2 a = (1, len, f2) ∧ (∀ j, j < N → f2 j = vI 0) ∧ ∀ j, N ≤ j → f2 j = f j)
  | 0, k, h, g, f, hd, ho, ha, hc, h1, h10, hca, hf => by
    iterate 2 (refine am_E.go rfl rfl ?_; dsimp only [Nat.reduceAdd])
    refine ae_gf (x := 0) (y := 1) rfl ho hc (by omega) h1 ?_
    refine am_E.go rfl rfl ?_; dsimp only [Nat.reduceAdd]
    rw [show am_cmp .ge (k : Int) (N : Int) = true by simp [am_cmp]; omega]
    refine am_E.ret rfl rfl ⟨rfl, rfl, rfl, fun _ _ => rfl, f, hca, fun j hj => hf j (by omega), fun _ _ => rfl⟩
  | d + 1, k, h, g, f, hd, ho, ha, hc, h1, h10, hca, hf => by
    iterate 2 (refine am_E.go rfl rfl ?_; dsimp only [Nat.reduceAdd])
    refine ae_gf (x := 0) (y := 1) rfl ho hc (by omega) h1 ?_
    refine am_E.go rfl rfl ?_; dsimp only [Nat.reduceAdd]
    rw [show am_cmp .ge (k : Int) (N : Int) = false by simp [am_cmp]; omega]
    refine am_E.go rfl rfl ?_; dsimp only [Nat.reduceAdd]
    refine ae_gf (x := 0) (y := 10) rfl ho hc (by omega) h10 ?_
    iterate 2 (refine am_E.go rfl rfl ?_; dsimp only [Nat.reduceAdd])
    refine ae_ast (kd := 1) rfl rfl ha hca rfl (j := k) (by omega) rfl ?_
    iterate 2 (refine am_E.go rfl rfl ?_; dsimp only [Nat.reduceAdd])
    have e : am_w ((k : Int) + 1) = ((k + 1 : Nat) : Int) := by
      rw [am_w_id (by unfold am_r32; omega)]
      omega
    show am_E _ (2, [vR o, vI (am_w ((k : Int) + 1))], [], am_wr h a k (vI 0)) _
    rw [e]
    refine (rn_forget_loop hN hN8 hoa d (k + 1) (am_wr h a k (vI 0)) g (am_up f k (vI 0)) (by omega) ho ha (by rw [am_wr_ne hoa]; exact hc) h1 h10 (am_wr_same hca) (fun j hj => ?_)).imp (fun r h2 q => ?_)
    · by_cases e9 : j = k
      · rw [e9, am_up_s]
      · rw [am_up_n e9]
        exact hf j (by omega)
    · obtain ⟨q1, q2, q3, q4, f2, q5, q6, q7⟩ := q
      exact ⟨q1, q2, q3, fun b hb => by rw [q4 b hb, am_wr_ne hb], f2, q5, q6, fun j hj => by rw [q7 j hj, am_up_n (by omega)]⟩
end
section
/-! Runs: calls on an object, new cells, copies. -/
section AE
variable {C : am_C} {pc : Nat} {ls st : List am_V} {h : am_H} {Z : Option am_V → am_H → Prop}
theorem ae_callv {ins : Instr} {x y mL a n : Nat} {f : Nat → am_V} {as2 rest : List am_V} {C2 : am_C} {Z2 : Option am_V → am_H → Prop} (hrow : am_row C pc = some (ins, 3, x, y)) (hs : am_sem ac_ft ins = am_inv) (hx : 1000 ≤ x) (hy : y ≤ st.length) (has : (st.take y).reverse = vR a :: as2) (hrest : st.drop y = rest) (hcat : (rest.map am_cat).sum ≤ 8) (ha : a < h.1) (hc : h.2.2 a = (9 + x / 1000, n, f))
    (hM : ac_L[x % 1000]? = some (C2, mL)) (hcat2 : ((vR a :: as2).map am_cat).sum ≤ mL) (hk : am_E C2 (0, am_pad mL (vR a :: as2), [], h) Z2) (k : ∀ r h2, Z2 r h2 → am_E C (pc + 3, ls, r.toList ++ rest, h2) Z) : am_E C (pc, ls, st, h) Z := by
  have hr : am_rcv h x (st.take y).reverse = true := by
    rw [has]
    unfold am_rcv
    rw [if_neg (by omega)]
    simp only [hc, Bool.and_eq_true, decide_eq_true_eq]
    exact ⟨ha, trivial⟩
  have hr2 : ((st.drop y).map am_cat).sum ≤ 8 := by
    rw [hrest]
    exact hcat
  refine am_E.call (q := (x % 1000, vR a :: as2, pc + 3, ls, rest, h)) (M := (C2, mL)) hrow ?_ hM hcat2 hk k
  show am_sem ac_ft ins 3 x y (pc, ls, st, h) = _
  rw [hs]
  unfold am_inv
  rw [if_neg (by omega), if_neg (by omega), if_pos ⟨hy, hr2, hr⟩, has, hrest]
theorem ae_newa {ins : Instr} {len lo top x y n : Nat} {i : Int} (hrow : am_row C pc = some (ins, len, x, y)) (hs : am_sem ac_ft ins = am_newa lo top) (hi : i = (n : Int)) (hn : n ≤ 1024) (hx : lo ≤ x ∧ x ≤ top) (k : am_E C (pc + len, ls, vR h.1 :: st, am_mk h x n (fun _ => am_dv x)) Z) : am_E C (pc, ls, vI i :: st, h) Z := by
  refine am_E.go hrow ?_ k
  show am_sem ac_ft ins len x y (pc, ls, vI i :: st, h) = _
  rw [hs]
  unfold am_newa
  simp only []
  rw [if_pos ⟨by omega, by omega, hx.1, hx.2⟩, hi, Int.toNat_natCast]
theorem ae_mna {j d x y n m : Nat} {i i2 : Int} (hrow : am_row C pc = some (.multianewarray j d, 4, x, y)) (hi : i = (n : Int)) (hi2 : i2 = (m : Int)) (hn : n ≤ 1024) (hm : m ≤ 1024) (k : am_E C (pc + 4, ls, vR h.1 :: st, am_grid h n m) Z) : am_E C (pc, ls, vI i2 :: vI i :: st, h) Z := by
  refine am_E.go hrow ?_ k
  show am_mna 4 x y (pc, ls, vI i2 :: vI i :: st, h) = _
  unfold am_mna
  simp only []
  rw [if_pos ⟨by omega, by omega, by omega, by omega⟩, hi, hi2, Int.toNat_natCast, Int.toNat_natCast]
theorem ae_aast {x y a b j n : Nat} {i : Int} {kd n2 : Nat} {f g : Nat → am_V} (hrow : am_row C pc = some (.aastore, 1, x, y)) (ha : a < h.1) (hb : b < h.1) (hc : h.2.2 a = (kd, n, f)) (hd : h.2.2 b = (am_comp kd, n2, g)) (h4 : 4 ≤ kd) (h7 : kd < 7) (hi : i = (j : Int)) (hj : j < n) (k : am_E C (pc + 1, ls, st, am_wr h a j (vR b)) Z) : am_E C (pc, ls, vR b :: vI i :: vR a :: st, h) Z := by
  refine am_E.go hrow ?_ k
  show am_aast 1 x y (pc, ls, vR b :: vI i :: vR a :: st, h) = _
  unfold am_aast
  simp only [hc, hd]
  rw [if_pos ⟨ha, hb, h4, h7, trivial, by omega, by omega⟩, hi, Int.toNat_natCast]
/-- the heap behind a copy of n places -/
def am_cp (h : am_H) (a sp b dp n : Nat) : am_H := (h.1, h.2.1, am_up h.2.2 b ((h.2.2 b).1, (h.2.2 b).2.1, am_cpy (h.2.2 a).2.2 (h.2.2 b).2.2 sp dp n))
theorem ae_copy {j y a b ka na nb sp dp n : Nat} {i1 i2 i3 : Int} {f g : Nat → am_V} (hrow : am_row C pc = some (.invokestatic j, 3, 901, y)) (ha : a < h.1) (hb : b < h.1) (hc : h.2.2 a = (ka, na, f)) (hd : h.2.2 b = (ka, nb, g)) (hk : ka = 0 ∨ ka = 2) (h1 : i1 = (sp : Int)) (h2 : i2 = (dp : Int)) (h3 : i3 = (n : Int)) (h4 : sp + n ≤ na) (h5 : dp + n ≤ nb) (k : am_E C (pc + 3, ls, [], am_cp h a sp b dp n) Z) : am_E C (pc, ls, [vI i3, vI i2, vR b, vI i1, vR a], h) Z := by
  refine am_E.go hrow ?_ k
  show am_acopy 3 901 y (pc, ls, [vI i3, vI i2, vR b, vI i1, vR a], h) = _
  subst h1
  subst h2
  subst h3
  unfold am_acopy am_cp
  simp only [hc, hd]
  rw [if_pos ⟨ha, hb, trivial, hk, by omega, by omega, by omega, by omega, by omega⟩]
  simp only [Int.toNat_natCast]
end AE
/-- across: the point in the same place on the other side -/
theorem rn_across {o n : Nat} {g : Nat → am_V} {S p : Int} {h : am_H} (ho : o < h.1) (hc : h.2.2 o = (10, n, g)) (hn : 0 < n) (hS : g 0 = vI S) : am_E ac_X0_across (0, [vR o, vI p], [], h) (fun r h2 => r = some (vI (if p < S then am_w (p + S) else am_w (p - S))) ∧ h2 = h) := by
  iterate 2 (refine am_E.go rfl rfl ?_; dsimp only [Nat.reduceAdd])
  refine ae_gf (x := 0) (y := 0) rfl ho hc hn hS ?_
  refine am_E.go rfl rfl ?_; dsimp only [Nat.reduceAdd]
  by_cases q : p < S
  · rw [show am_cmp .ge p S = false by simp [am_cmp]; omega, if_pos q]
    iterate 2 (refine am_E.go rfl rfl ?_; dsimp only [Nat.reduceAdd])
    refine ae_gf (x := 0) (y := 0) rfl ho hc hn hS ?_
    iterate 2 (refine am_E.go rfl rfl ?_; dsimp only [Nat.reduceAdd])
    exact am_E.ret rfl rfl ⟨rfl, rfl⟩
  · rw [show am_cmp .ge p S = true by simp [am_cmp]; omega, if_neg q]
    iterate 2 (refine am_E.go rfl rfl ?_; dsimp only [Nat.reduceAdd])
    refine ae_gf (x := 0) (y := 0) rfl ho hc hn hS ?_
    iterate 1 (refine am_E.go rfl rfl ?_; dsimp only [Nat.reduceAdd])
    exact am_E.ret rfl rfl ⟨rfl, rfl⟩
end
section
/-! row, of the class and of the reference. -/
/-- Crossings.begin(n) -/
theorem rn_X1_begin {o : Nat} {g : Nat → am_V} {n : Int} {h : am_H} (ho : o < h.1) (hc : h.2.2 o = (11, 5, g)) : am_E ac_X1_begin (0, [vR o, vI n], [], h) (fun r h2 => r = none ∧ h2.1 = h.1 ∧ h2.2.1 = h.2.1 ∧ (∀ b, b ≠ o → h2.2.2 b = h.2.2 b) ∧ h2.2.2 o = (11, 5, am_up (am_up (am_up g 0 (vI n)) 1 (vI 0)) 4 (vI 0))) := by
  iterate 2 (refine am_E.go rfl rfl ?_; dsimp only [Nat.reduceAdd])
  refine ae_pf (x := 1) (y := 0) rfl ho hc (by omega) rfl ?_
  iterate 2 (refine am_E.go rfl rfl ?_; dsimp only [Nat.reduceAdd])
  refine ae_pf (x := 1) (y := 1) rfl ho (am_wr_same hc) (by omega) rfl ?_
  iterate 2 (refine am_E.go rfl rfl ?_; dsimp only [Nat.reduceAdd])
  refine ae_pf (x := 1) (y := 4) rfl ho (am_wr_same (am_wr_same hc)) (by omega) rfl ?_
  exact am_E.ret rfl rfl ⟨rfl, rfl, rfl, fun b hb => by rw [am_wr_ne hb, am_wr_ne hb, am_wr_ne hb], am_wr_same (am_wr_same (am_wr_same hc))⟩
/-- what row answers -/
def rw_ans (n : Int) : Int := if 2 ≤ n ∧ n ≤ 4 then 0 else -1
/-- StrandBoxes.row(n): BAD changes nothing; else the row begins anew -/
theorem rn_X4_row {x o : Nat} {g gx : Nat → am_V} {n : Int} {h : am_H} (hx : x < h.1) (hcx : h.2.2 x = (14, 5, gx)) (hxo : gx 4 = vR o) (ho : o < h.1) (hc : h.2.2 o = (11, 5, g)) :
    am_E ac_X4_row (0, [vR x, vI n], [], h) (fun r h2 => r = some (vI (rw_ans n)) ∧ h2.1 = h.1 ∧ h2.2.1 = h.2.1 ∧ (∀ b, b ≠ o → h2.2.2 b = h.2.2 b) ∧ ((¬ (2 ≤ n ∧ n ≤ 4) ∧ h2 = h) ∨ ((2 ≤ n ∧ n ≤ 4) ∧ h2.2.2 o = (11, 5, am_up (am_up (am_up g 0 (vI n)) 1 (vI 0)) 4 (vI 0))))) := by
  iterate 3 (refine am_E.go rfl rfl ?_; dsimp only [Nat.reduceAdd])
  by_cases q1 : n < 2
  · rw [show am_cmp .lt n 2 = true by simp [am_cmp, q1]]
    iterate 1 (refine am_E.go rfl rfl ?_; dsimp only [Nat.reduceAdd])
    refine am_E.ret rfl rfl ⟨?_, rfl, rfl, fun _ _ => rfl, Or.inl ⟨by omega, rfl⟩⟩
    unfold rw_ans
    rw [if_neg (by omega)]
  · rw [show am_cmp .lt n 2 = false by simp [am_cmp]; omega]
    iterate 3 (refine am_E.go rfl rfl ?_; dsimp only [Nat.reduceAdd])
    by_cases q2 : 4 < n
    · rw [show am_cmp .le n 4 = false by simp [am_cmp]; omega]
      iterate 1 (refine am_E.go rfl rfl ?_; dsimp only [Nat.reduceAdd])
      refine am_E.ret rfl rfl ⟨?_, rfl, rfl, fun _ _ => rfl, Or.inl ⟨by omega, rfl⟩⟩
      unfold rw_ans
      rw [if_neg (by omega)]
    · rw [show am_cmp .le n 4 = true by simp [am_cmp]; omega]
      iterate 1 (refine am_E.go rfl rfl ?_; dsimp only [Nat.reduceAdd])
      refine ae_gf (x := 4) (y := 4) rfl hx hcx (by omega) hxo ?_
      iterate 1 (refine am_E.go rfl rfl ?_; dsimp only [Nat.reduceAdd])
      refine ae_callv (a := o) (as2 := [vI n]) (rest := []) rfl rfl (by decide) (Nat.le_of_ble_eq_true rfl) rfl rfl (by decide) ho hc rfl (Nat.le_of_ble_eq_true rfl) (rn_X1_begin (n := n) ho hc) ?_
      rintro r h2 ⟨rfl, b1, b2, b3, b4⟩
      show am_E _ (20, [vR x, vI n], [], h2) _
      iterate 1 (refine am_E.go rfl rfl ?_; dsimp only [Nat.reduceAdd])
      refine am_E.ret rfl rfl ⟨?_, b1, b2, b3, Or.inr ⟨by omega, b4⟩⟩
      unfold rw_ans
      rw [if_pos (by omega)]
/-- the reference's row(n): the same answer -/
theorem rn_X5_row {x : Nat} {g : Nat → am_V} {n : Int} {h : am_H} (hx : x < h.1) (hc : h.2.2 x = (15, 27, g)) :
    am_E ac_X5_row (0, [vR x, vI n], [], h) (fun r h2 => r = some (vI (rw_ans n)) ∧ h2.1 = h.1 ∧ h2.2.1 = h.2.1 ∧ (∀ b, b ≠ x → h2.2.2 b = h.2.2 b) ∧ ((¬ (2 ≤ n ∧ n ≤ 4) ∧ h2 = h) ∨ ((2 ≤ n ∧ n ≤ 4) ∧ h2.2.2 x = (15, 27, am_up (am_up g 9 (vI n)) 10 (vI 0))))) := by
  iterate 4 (refine am_E.go rfl rfl ?_; dsimp only [Nat.reduceAdd])
  refine am_E.call rfl rfl rfl (Nat.le_of_ble_eq_true rfl) (rn_in n 2 4 h) ?_
  rintro r h2 ⟨rfl, rfl⟩
  show am_E _ (11, [vR x, vI n], [vI (if 2 ≤ n ∧ n ≤ 4 then 1 else 0)], h2) _
  unfold rw_ans
  by_cases q : 2 ≤ n ∧ n ≤ 4
  · rw [if_pos q]
    iterate 3 (refine am_E.go rfl rfl ?_; dsimp only [Nat.reduceAdd])
    refine ae_pf (x := 5) (y := 9) rfl hx hc (by omega) rfl ?_
    iterate 2 (refine am_E.go rfl rfl ?_; dsimp only [Nat.reduceAdd])
    refine ae_pf (x := 5) (y := 10) rfl hx (am_wr_same hc) (by omega) rfl ?_
    iterate 1 (refine am_E.go rfl rfl ?_; dsimp only [Nat.reduceAdd])
    rw [if_pos q]
    exact am_E.ret rfl rfl ⟨rfl, rfl, rfl, fun b hb => by rw [am_wr_ne hb, am_wr_ne hb], Or.inr ⟨q, am_wr_same (am_wr_same hc)⟩⟩
  · rw [if_neg q]
    iterate 2 (refine am_E.go rfl rfl ?_; dsimp only [Nat.reduceAdd])
    rw [if_neg q]
    exact am_E.ret rfl rfl ⟨rfl, rfl, rfl, fun _ _ => rfl, Or.inl ⟨q, rfl⟩⟩
end
section
/-! back, of the class and of the reference. -/
theorem rn_X1_dropLast {o : Nat} {g : Nat → am_V} {k : Nat} {h : am_H} (ho : o < h.1) (hc : h.2.2 o = (11, 5, g)) (hk : g 1 = vI (k : Int)) (hk8 : k ≤ 8) : am_E ac_X1_dropLast (0, [vR o], [], h) (fun r h2 => h2.1 = h.1 ∧ h2.2.1 = h.2.1 ∧ (∀ b, b ≠ o → h2.2.2 b = h.2.2 b) ∧ ((k = 0 ∧ r = some (vI 0) ∧ h2 = h) ∨ (0 < k ∧ r = some (vI 1) ∧ h2.2.2 o = (11, 5, am_up (am_up g 1 (vI ((k - 1 : Nat) : Int))) 4 (vI 0))))) := by
  iterate 1 (refine am_E.go rfl rfl ?_; dsimp only [Nat.reduceAdd])
  refine ae_gf (x := 1) (y := 1) rfl ho hc (by omega) hk ?_
  iterate 1 (refine am_E.go rfl rfl ?_; dsimp only [Nat.reduceAdd])
  by_cases q : k = 0
  · rw [show am_cmp .gt (k : Int) 0 = false by simp [am_cmp]; omega]
    iterate 1 (refine am_E.go rfl rfl ?_; dsimp only [Nat.reduceAdd])
    exact am_E.ret rfl rfl ⟨rfl, rfl, fun _ _ => rfl, Or.inl ⟨q, rfl, rfl⟩⟩
  · rw [show am_cmp .gt (k : Int) 0 = true by simp [am_cmp]; omega]
    iterate 2 (refine am_E.go rfl rfl ?_; dsimp only [Nat.reduceAdd])
    refine ae_gf (x := 1) (y := 1) rfl ho hc (by omega) hk ?_
    iterate 2 (refine am_E.go rfl rfl ?_; dsimp only [Nat.reduceAdd])
    rw [show am_w ((k : Int) - 1) = ((k - 1 : Nat) : Int) by rw [am_w_id (by unfold am_r32; omega)]; omega]
    refine ae_pf (x := 1) (y := 1) rfl ho hc (by omega) rfl ?_
    iterate 2 (refine am_E.go rfl rfl ?_; dsimp only [Nat.reduceAdd])
    refine ae_pf (x := 1) (y := 4) rfl ho (am_wr_same hc) (by omega) rfl ?_
    iterate 1 (refine am_E.go rfl rfl ?_; dsimp only [Nat.reduceAdd])
    exact am_E.ret rfl rfl ⟨rfl, rfl, fun b hb => by rw [am_wr_ne hb, am_wr_ne hb], Or.inr ⟨by omega, rfl, am_wr_same (am_wr_same hc)⟩⟩
/-- what back answers at k crossings -/
def bk_ans (k : Nat) : Int := if k = 0 then -2 else ((k - 1 : Nat) : Int)
theorem rn_X4_back {x o k : Nat} {g gx : Nat → am_V} {h : am_H} (hx : x < h.1) (hcx : h.2.2 x = (14, 5, gx)) (hxo : gx 4 = vR o) (hne : x ≠ o) (ho : o < h.1) (hc : h.2.2 o = (11, 5, g)) (hk : g 1 = vI (k : Int)) (hk8 : k ≤ 8) :
    am_E ac_X4_back (0, [vR x], [], h) (fun r h2 => r = some (vI (bk_ans k)) ∧ h2.1 = h.1 ∧ h2.2.1 = h.2.1 ∧ (∀ b, b ≠ o → h2.2.2 b = h.2.2 b) ∧ ((k = 0 ∧ h2 = h) ∨ (0 < k ∧ h2.2.2 o = (11, 5, am_up (am_up g 1 (vI ((k - 1 : Nat) : Int))) 4 (vI 0))))) := by
  iterate 1 (refine am_E.go rfl rfl ?_; dsimp only [Nat.reduceAdd])
  refine ae_gf (x := 4) (y := 4) rfl hx hcx (by omega) hxo ?_
  refine ae_callv (a := o) (as2 := []) (rest := []) rfl rfl (by decide) (Nat.le_of_ble_eq_true rfl) rfl rfl (by decide) ho hc rfl (Nat.le_of_ble_eq_true rfl) (rn_X1_dropLast ho hc hk hk8) ?_
  rintro r h2 ⟨b1, b2, b3, ⟨q, rfl, rfl⟩ | ⟨q, rfl, b4⟩⟩
  · show am_E _ (7, [vR x], [vI 0], h2) _
    iterate 2 (refine am_E.go rfl rfl ?_; dsimp only [Nat.reduceAdd])
    exact am_E.ret rfl rfl ⟨by unfold bk_ans; rw [if_pos q], rfl, rfl, fun _ _ => rfl, Or.inl ⟨q, rfl⟩⟩
  · show am_E _ (7, [vR x], [vI 1], h2) _
    iterate 2 (refine am_E.go rfl rfl ?_; dsimp only [Nat.reduceAdd])
    refine ae_gf (x := 4) (y := 4) rfl (by omega) (by rw [b3 x hne]; exact hcx) (by omega) hxo ?_
    refine ae_gf (x := 1) (y := 1) (v := vI ((k - 1 : Nat) : Int)) rfl (by omega) b4 (by omega) (by rw [am_up_n (by omega), am_up_s]) ?_
    iterate 1 (refine am_E.go rfl rfl ?_; dsimp only [Nat.reduceAdd])
    exact am_E.ret rfl rfl ⟨by unfold bk_ans; rw [if_neg (by omega)], b1, b2, b3, Or.inr ⟨q, b4⟩⟩
theorem rn_X5_back {x k : Nat} {g : Nat → am_V} {h : am_H} (hx : x < h.1) (hc : h.2.2 x = (15, 27, g)) (hk : g 10 = vI (k : Int)) (hk8 : k ≤ 8) :
    am_E ac_X5_back (0, [vR x], [], h) (fun r h2 => r = some (vI (bk_ans k)) ∧ h2.1 = h.1 ∧ h2.2.1 = h.2.1 ∧ (∀ b, b ≠ x → h2.2.2 b = h.2.2 b) ∧ ((k = 0 ∧ h2 = h) ∨ (0 < k ∧ h2.2.2 x = (15, 27, am_up g 10 (vI ((k - 1 : Nat) : Int)))))) := by
  iterate 1 (refine am_E.go rfl rfl ?_; dsimp only [Nat.reduceAdd])
  refine ae_gf (x := 5) (y := 10) rfl hx hc (by omega) hk ?_
  iterate 1 (refine am_E.go rfl rfl ?_; dsimp only [Nat.reduceAdd])
  by_cases q : k = 0
  · rw [show am_cmp .ne (k : Int) 0 = false by simp [am_cmp]; omega]
    iterate 1 (refine am_E.go rfl rfl ?_; dsimp only [Nat.reduceAdd])
    exact am_E.ret rfl rfl ⟨by unfold bk_ans; rw [if_pos q], rfl, rfl, fun _ _ => rfl, Or.inl ⟨q, rfl⟩⟩
  · rw [show am_cmp .ne (k : Int) 0 = true by simp [am_cmp]; omega]
    iterate 2 (refine am_E.go rfl rfl ?_; dsimp only [Nat.reduceAdd])
    refine ae_gf (x := 5) (y := 10) rfl hx hc (by omega) hk ?_
    iterate 2 (refine am_E.go rfl rfl ?_; dsimp only [Nat.reduceAdd])
    rw [show am_w ((k : Int) - 1) = ((k - 1 : Nat) : Int) by rw [am_w_id (by unfold am_r32; omega)]; omega]
    refine ae_pf (x := 5) (y := 10) rfl hx hc (by omega) rfl ?_
    iterate 1 (refine am_E.go rfl rfl ?_; dsimp only [Nat.reduceAdd])
    refine ae_gf (x := 5) (y := 10) (v := vI ((k - 1 : Nat) : Int)) rfl hx (am_wr_same hc) (by omega) am_up_s ?_
    exact am_E.ret rfl rfl ⟨by unfold bk_ans; rw [if_neg q], rfl, rfl, fun b hb => by rw [am_wr_ne hb], Or.inr ⟨by omega, am_wr_same hc⟩⟩
end
section
/-! cross, of the class. -/
theorem rn_X1_allows {o : Nat} {g : Nat → am_V} {l : Int} {S : Nat} {h : am_H} (ho : o < h.1) (hc : h.2.2 o = (11, 5, g)) (hS : g 0 = vI (S : Int)) (hS4 : S ≤ 4) : am_E ac_X1_allows (0, [vR o, vI l], [], h) (fun r h2 => r = some (vI (if l ≠ 0 ∧ -(S : Int) < l ∧ l < S then 1 else 0)) ∧ h2 = h) := by
  iterate 2 (refine am_E.go rfl rfl ?_; dsimp only [Nat.reduceAdd])
  by_cases q0 : l = 0
  · rw [show am_cmp .eq l 0 = true by simp [am_cmp, q0]]
    iterate 1 (refine am_E.go rfl rfl ?_; dsimp only [Nat.reduceAdd])
    exact am_E.ret rfl rfl ⟨by rw [if_neg (by omega)], rfl⟩
  · rw [show am_cmp .eq l 0 = false by simp [am_cmp, q0]]
    iterate 2 (refine am_E.go rfl rfl ?_; dsimp only [Nat.reduceAdd])
    refine ae_gf (x := 1) (y := 0) rfl ho hc (by omega) hS ?_
    iterate 2 (refine am_E.go rfl rfl ?_; dsimp only [Nat.reduceAdd])
    rw [show am_w (-(S : Int)) = -(S : Int) from am_w_id (by unfold am_r32; omega)]
    by_cases q1 : l ≤ -(S : Int)
    · rw [show am_cmp .le l (-(S : Int)) = true by simp [am_cmp]; omega]
      iterate 1 (refine am_E.go rfl rfl ?_; dsimp only [Nat.reduceAdd])
      exact am_E.ret rfl rfl ⟨by rw [if_neg (by omega)], rfl⟩
    · rw [show am_cmp .le l (-(S : Int)) = false by simp [am_cmp]; omega]
      iterate 2 (refine am_E.go rfl rfl ?_; dsimp only [Nat.reduceAdd])
      refine ae_gf (x := 1) (y := 0) rfl ho hc (by omega) hS ?_
      iterate 1 (refine am_E.go rfl rfl ?_; dsimp only [Nat.reduceAdd])
      by_cases q2 : (S : Int) ≤ l
      · rw [show am_cmp .ge l (S : Int) = true by simp [am_cmp]; omega]
        iterate 1 (refine am_E.go rfl rfl ?_; dsimp only [Nat.reduceAdd])
        exact am_E.ret rfl rfl ⟨by rw [if_neg (by omega)], rfl⟩
      · rw [show am_cmp .ge l (S : Int) = false by simp [am_cmp]; omega]
        iterate 2 (refine am_E.go rfl rfl ?_; dsimp only [Nat.reduceAdd])
        exact am_E.ret rfl rfl ⟨by rw [if_pos (by omega)], rfl⟩
/-- Crossings.append(l): k crossings so far, their letters in the cell a -/
theorem rn_X1_append {o a k : Nat} {g f : Nat → am_V} {l : Int} {h : am_H} (ho : o < h.1) (hc : h.2.2 o = (11, 5, g)) (hk : g 1 = vI (k : Int)) (hk8 : k ≤ 8) (hl : g 2 = vR a) (ha : a < h.1) (hoa : o ≠ a) (hca : h.2.2 a = (0, 8, f)) : am_E ac_X1_append (0, [vR o, vI l], [], h) (fun r h2 => h2.1 = h.1 ∧ h2.2.1 = h.2.1 ∧ (∀ b, b ≠ o → b ≠ a → h2.2.2 b = h.2.2 b) ∧ ((k = 8 ∧ r = some (vI 0) ∧ h2 = h) ∨ (k < 8 ∧ r = some (vI 1) ∧ h2.2.2 o = (11, 5, am_up (am_up g 1 (vI ((k + 1 : Nat) : Int))) 4 (vI 0)) ∧ h2.2.2 a = (0, 8, am_up f k (vI l))))) := by
  iterate 1 (refine am_E.go rfl rfl ?_; dsimp only [Nat.reduceAdd])
  refine ae_gf (x := 1) (y := 1) rfl ho hc (by omega) hk ?_
  iterate 2 (refine am_E.go rfl rfl ?_; dsimp only [Nat.reduceAdd])
  by_cases q : k = 8
  · rw [show am_cmp .lt (k : Int) 8 = false by simp [am_cmp]; omega]
    iterate 1 (refine am_E.go rfl rfl ?_; dsimp only [Nat.reduceAdd])
    exact am_E.ret rfl rfl ⟨rfl, rfl, fun _ _ _ => rfl, Or.inl ⟨q, rfl, rfl⟩⟩
  · rw [show am_cmp .lt (k : Int) 8 = true by simp [am_cmp]; omega]
    iterate 1 (refine am_E.go rfl rfl ?_; dsimp only [Nat.reduceAdd])
    refine ae_gf (x := 1) (y := 2) rfl ho hc (by omega) hl ?_
    iterate 1 (refine am_E.go rfl rfl ?_; dsimp only [Nat.reduceAdd])
    refine ae_gf (x := 1) (y := 1) rfl ho hc (by omega) hk ?_
    iterate 1 (refine am_E.go rfl rfl ?_; dsimp only [Nat.reduceAdd])
    refine ae_ast (kd := 0) rfl rfl ha hca rfl (j := k) (by omega) rfl ?_
    have hc1 : (am_wr h a k (vI l)).2.2 o = (11, 5, g) := by rw [am_wr_ne hoa]; exact hc
    iterate 2 (refine am_E.go rfl rfl ?_; dsimp only [Nat.reduceAdd])
    refine ae_gf (x := 1) (y := 1) rfl ho hc1 (by omega) hk ?_
    iterate 2 (refine am_E.go rfl rfl ?_; dsimp only [Nat.reduceAdd])
    rw [show am_w ((k : Int) + 1) = ((k + 1 : Nat) : Int) by rw [am_w_id (by unfold am_r32; omega)]; omega]
    refine ae_pf (x := 1) (y := 1) rfl ho hc1 (by omega) rfl ?_
    iterate 2 (refine am_E.go rfl rfl ?_; dsimp only [Nat.reduceAdd])
    refine ae_pf (x := 1) (y := 4) rfl ho (am_wr_same hc1) (by omega) rfl ?_
    iterate 1 (refine am_E.go rfl rfl ?_; dsimp only [Nat.reduceAdd])
    exact am_E.ret rfl rfl ⟨rfl, rfl, fun b hb hb2 => by rw [am_wr_ne hb, am_wr_ne hb, am_wr_ne hb2], Or.inr ⟨by omega, rfl, am_wr_same (am_wr_same hc1), by rw [am_wr_ne (Ne.symm hoa), am_wr_ne (Ne.symm hoa)]; exact am_wr_same hca⟩⟩
end
section
/-! cross, of the class. -/
/-- what cross answers: S strands, k crossings so far -/
def cr_ans (S k : Nat) (l : Int) : Int := if l ≠ 0 ∧ -(S : Int) < l ∧ l < S then (if k = 8 then -3 else ((k + 1 : Nat) : Int)) else -1
theorem rn_X4_cross {x o a S k : Nat} {g gx f : Nat → am_V} {l : Int} {h : am_H} (hx : x < h.1) (hcx : h.2.2 x = (14, 5, gx)) (hxo : gx 4 = vR o) (hne : x ≠ o) (hna : x ≠ a) (ho : o < h.1) (hc : h.2.2 o = (11, 5, g)) (hS : g 0 = vI (S : Int)) (hS4 : S ≤ 4) (hk : g 1 = vI (k : Int)) (hk8 : k ≤ 8) (hl : g 2 = vR a) (ha : a < h.1) (hoa : o ≠ a) (hca : h.2.2 a = (0, 8, f)) :
    am_E ac_X4_cross (0, [vR x, vI l], [], h) (fun r h2 => r = some (vI (cr_ans S k l)) ∧ h2.1 = h.1 ∧ h2.2.1 = h.2.1 ∧ (∀ b, b ≠ o → b ≠ a → h2.2.2 b = h.2.2 b) ∧ ((¬ ((l ≠ 0 ∧ -(S : Int) < l ∧ l < S) ∧ k < 8) ∧ h2 = h) ∨ ((l ≠ 0 ∧ -(S : Int) < l ∧ l < S) ∧ k < 8 ∧ h2.2.2 o = (11, 5, am_up (am_up g 1 (vI ((k + 1 : Nat) : Int))) 4 (vI 0)) ∧ h2.2.2 a = (0, 8, am_up f k (vI l))))) := by
  iterate 1 (refine am_E.go rfl rfl ?_; dsimp only [Nat.reduceAdd])
  refine ae_gf (x := 4) (y := 4) rfl hx hcx (by omega) hxo ?_
  iterate 1 (refine am_E.go rfl rfl ?_; dsimp only [Nat.reduceAdd])
  refine ae_callv (a := o) (as2 := [vI l]) (rest := []) rfl rfl (by decide) (Nat.le_of_ble_eq_true rfl) rfl rfl (by decide) ho hc rfl (Nat.le_of_ble_eq_true rfl) (rn_X1_allows (l := l) ho hc hS hS4) ?_
  rintro r h2 ⟨rfl, rfl⟩
  show am_E _ (8, [vR x, vI l], [vI (if l ≠ 0 ∧ -(S : Int) < l ∧ l < S then 1 else 0)], h2) _
  by_cases q : l ≠ 0 ∧ -(S : Int) < l ∧ l < S
  · rw [if_pos q]
    iterate 2 (refine am_E.go rfl rfl ?_; dsimp only [Nat.reduceAdd])
    refine ae_gf (x := 4) (y := 4) rfl hx hcx (by omega) hxo ?_
    iterate 1 (refine am_E.go rfl rfl ?_; dsimp only [Nat.reduceAdd])
    refine ae_callv (a := o) (as2 := [vI l]) (rest := []) rfl rfl (by decide) (Nat.le_of_ble_eq_true rfl) rfl rfl (by decide) ho hc rfl (Nat.le_of_ble_eq_true rfl) (rn_X1_append (l := l) ho hc hk hk8 hl ha hoa hca) ?_
    rintro r h3 ⟨b1, b2, b3, ⟨q1, rfl, rfl⟩ | ⟨q1, rfl, b4, b5⟩⟩
    · show am_E _ (21, [vR x, vI l], [vI 0], h3) _
      iterate 2 (refine am_E.go rfl rfl ?_; dsimp only [Nat.reduceAdd])
      exact am_E.ret rfl rfl ⟨by unfold cr_ans; rw [if_pos q, if_pos q1], rfl, rfl, fun _ _ _ => rfl, Or.inl ⟨by omega, rfl⟩⟩
    · show am_E _ (21, [vR x, vI l], [vI 1], h3) _
      iterate 2 (refine am_E.go rfl rfl ?_; dsimp only [Nat.reduceAdd])
      refine ae_gf (x := 4) (y := 4) rfl (by omega) (by rw [b3 x hne hna]; exact hcx) (by omega) hxo ?_
      refine ae_gf (x := 1) (y := 1) (v := vI ((k + 1 : Nat) : Int)) rfl (by omega) b4 (by omega) (by rw [am_up_n (by omega), am_up_s]) ?_
      iterate 1 (refine am_E.go rfl rfl ?_; dsimp only [Nat.reduceAdd])
      exact am_E.ret rfl rfl ⟨by unfold cr_ans; rw [if_pos q, if_neg (by omega)], b1, b2, b3, Or.inr ⟨q, q1, b4, b5⟩⟩
  · rw [if_neg q]
    iterate 2 (refine am_E.go rfl rfl ?_; dsimp only [Nat.reduceAdd])
    exact am_E.ret rfl rfl ⟨by unfold cr_ans; rw [if_neg q], rfl, rfl, fun _ _ _ => rfl, Or.inl ⟨fun z => q z.1, rfl⟩⟩
end
section
/-! cross, of the reference: the same answer. -/
theorem rn_X5_cross_in {x a S k : Nat} {g f : Nat → am_V} {l s0 : Int} {h : am_H} (hx : x < h.1) (hc : h.2.2 x = (15, 27, g)) (hS : g 9 = vI (S : Int)) (hS4 : S ≤ 4) (hk : g 10 = vI (k : Int)) (hk8 : k ≤ 8) (hl : g 11 = vR a) (ha : a < h.1) (hxa : x ≠ a) (hca : h.2.2 a = (0, 8, f)) (hs : (1 ≤ s0 ∧ s0 ≤ (S : Int) - 1) ↔ (l ≠ 0 ∧ -(S : Int) < l ∧ l < S)) :
    am_E ac_X5_cross (11, [vR x, vI l, vI s0], [], h) (fun r h2 => r = some (vI (cr_ans S k l)) ∧ h2.1 = h.1 ∧ h2.2.1 = h.2.1 ∧ (∀ b, b ≠ x → b ≠ a → h2.2.2 b = h.2.2 b) ∧ ((¬ ((l ≠ 0 ∧ -(S : Int) < l ∧ l < S) ∧ k < 8) ∧ h2 = h) ∨ ((l ≠ 0 ∧ -(S : Int) < l ∧ l < S) ∧ k < 8 ∧ h2.2.2 x = (15, 27, am_up g 10 (vI ((k + 1 : Nat) : Int))) ∧ h2.2.2 a = (0, 8, am_up f k (vI l))))) := by
  iterate 4 (refine am_E.go rfl rfl ?_; dsimp only [Nat.reduceAdd])
  refine ae_gf (x := 5) (y := 9) rfl hx hc (by omega) hS ?_
  iterate 3 (refine am_E.go rfl rfl ?_; dsimp only [Nat.reduceAdd])
  rw [show am_w ((S : Int) - 1) = (S : Int) - 1 from am_w_id (by unfold am_r32; omega)]
  refine am_E.call rfl rfl rfl (Nat.le_of_ble_eq_true rfl) (rn_in s0 1 ((S : Int) - 1) h) ?_
  rintro r h2 ⟨rfl, rfl⟩
  show am_E _ (24, [vR x, vI l, vI s0], [vI (if 1 ≤ s0 ∧ s0 ≤ (S : Int) - 1 then 1 else 0)], h2) _
  by_cases q : l ≠ 0 ∧ -(S : Int) < l ∧ l < S
  · rw [if_pos (hs.mpr q)]
    iterate 2 (refine am_E.go rfl rfl ?_; dsimp only [Nat.reduceAdd])
    refine ae_gf (x := 5) (y := 10) rfl hx hc (by omega) hk ?_
    iterate 2 (refine am_E.go rfl rfl ?_; dsimp only [Nat.reduceAdd])
    by_cases q1 : k = 8
    · rw [show am_cmp .ne (k : Int) 8 = false by simp [am_cmp]; omega]
      iterate 1 (refine am_E.go rfl rfl ?_; dsimp only [Nat.reduceAdd])
      exact am_E.ret rfl rfl ⟨by unfold cr_ans; rw [if_pos q, if_pos q1], rfl, rfl, fun _ _ _ => rfl, Or.inl ⟨by omega, rfl⟩⟩
    · rw [show am_cmp .ne (k : Int) 8 = true by simp [am_cmp]; omega]
      iterate 1 (refine am_E.go rfl rfl ?_; dsimp only [Nat.reduceAdd])
      refine ae_gf (x := 5) (y := 11) rfl hx hc (by omega) hl ?_
      iterate 1 (refine am_E.go rfl rfl ?_; dsimp only [Nat.reduceAdd])
      refine ae_gf (x := 5) (y := 10) rfl hx hc (by omega) hk ?_
      iterate 1 (refine am_E.go rfl rfl ?_; dsimp only [Nat.reduceAdd])
      refine ae_ast (kd := 0) rfl rfl ha hca rfl (j := k) (by omega) rfl ?_
      have hc1 : (am_wr h2 a k (vI l)).2.2 x = (15, 27, g) := by rw [am_wr_ne hxa]; exact hc
      iterate 2 (refine am_E.go rfl rfl ?_; dsimp only [Nat.reduceAdd])
      refine ae_gf (x := 5) (y := 10) rfl hx hc1 (by omega) hk ?_
      iterate 2 (refine am_E.go rfl rfl ?_; dsimp only [Nat.reduceAdd])
      rw [show am_w ((k : Int) + 1) = ((k + 1 : Nat) : Int) by rw [am_w_id (by unfold am_r32; omega)]; omega]
      refine ae_pf (x := 5) (y := 10) rfl hx hc1 (by omega) rfl ?_
      iterate 1 (refine am_E.go rfl rfl ?_; dsimp only [Nat.reduceAdd])
      refine ae_gf (x := 5) (y := 10) (v := vI ((k + 1 : Nat) : Int)) rfl hx (am_wr_same hc1) (by omega) am_up_s ?_
      exact am_E.ret rfl rfl ⟨by unfold cr_ans; rw [if_pos q, if_neg q1], rfl, rfl, fun b hb hb2 => by rw [am_wr_ne hb, am_wr_ne hb2], Or.inr ⟨q, by omega, am_wr_same hc1, by rw [am_wr_ne (Ne.symm hxa)]; exact am_wr_same hca⟩⟩
  · rw [if_neg (fun z => q (hs.mp z))]
    iterate 2 (refine am_E.go rfl rfl ?_; dsimp only [Nat.reduceAdd])
    exact am_E.ret rfl rfl ⟨by unfold cr_ans; rw [if_neg q], rfl, rfl, fun _ _ _ => rfl, Or.inl ⟨fun z => q z.1, rfl⟩⟩
theorem rn_X5_cross {x a S k : Nat} {g f : Nat → am_V} {l : Int} {h : am_H} (hlr : am_r32 l) (hx : x < h.1) (hc : h.2.2 x = (15, 27, g)) (hS : g 9 = vI (S : Int)) (hS4 : S ≤ 4) (hk : g 10 = vI (k : Int)) (hk8 : k ≤ 8) (hl : g 11 = vR a) (ha : a < h.1) (hxa : x ≠ a) (hca : h.2.2 a = (0, 8, f)) :
    am_E ac_X5_cross (0, [vR x, vI l, vU], [], h) (fun r h2 => r = some (vI (cr_ans S k l)) ∧ h2.1 = h.1 ∧ h2.2.1 = h.2.1 ∧ (∀ b, b ≠ x → b ≠ a → h2.2.2 b = h.2.2 b) ∧ ((¬ ((l ≠ 0 ∧ -(S : Int) < l ∧ l < S) ∧ k < 8) ∧ h2 = h) ∨ ((l ≠ 0 ∧ -(S : Int) < l ∧ l < S) ∧ k < 8 ∧ h2.2.2 x = (15, 27, am_up g 10 (vI ((k + 1 : Nat) : Int))) ∧ h2.2.2 a = (0, 8, am_up f k (vI l))))) := by
  unfold am_r32 at hlr
  iterate 2 (refine am_E.go rfl rfl ?_; dsimp only [Nat.reduceAdd])
  by_cases q : l < 0
  · rw [show am_cmp .ge l 0 = false by simp [am_cmp]; omega]
    iterate 4 (refine am_E.go rfl rfl ?_; dsimp only [Nat.reduceAdd])
    refine rn_X5_cross_in (s0 := am_w (-l)) hx hc hS hS4 hk hk8 hl ha hxa hca ?_
    by_cases q1 : l = -2147483648
    · subst q1
      rw [show am_w (-(-2147483648)) = -2147483648 by decide]
      omega
    · rw [am_w_id (by unfold am_r32; omega)]
      omega
  · rw [show am_cmp .ge l 0 = true by simp [am_cmp]; omega]
    iterate 2 (refine am_E.go rfl rfl ?_; dsimp only [Nat.reduceAdd])
    refine rn_X5_cross_in (s0 := l) hx hc hS hS4 hk hk8 hl ha hxa hca ?_
    omega
end
section
/-! Small tests of arguments. -/
theorem rn_X4_isSum (n : Int) (h : am_H) : am_E ac_X4_isSum (0, [vI n], [], h) (fun r h2 => r = some (vI (if 0 ≤ n ∧ n < 8 then 1 else 0)) ∧ h2 = h) := by
  iterate 2 (refine am_E.go rfl rfl ?_; dsimp only [Nat.reduceAdd])
  by_cases q : n < 0
  · rw [show am_cmp .lt n 0 = true by simp [am_cmp, q]]
    iterate 1 (refine am_E.go rfl rfl ?_; dsimp only [Nat.reduceAdd])
    exact am_E.ret rfl rfl ⟨by rw [if_neg (by omega)], rfl⟩
  · rw [show am_cmp .lt n 0 = false by simp [am_cmp]; omega]
    iterate 3 (refine am_E.go rfl rfl ?_; dsimp only [Nat.reduceAdd])
    by_cases q1 : 8 ≤ n
    · rw [show am_cmp .ge n 8 = true by simp [am_cmp]; omega]
      iterate 1 (refine am_E.go rfl rfl ?_; dsimp only [Nat.reduceAdd])
      exact am_E.ret rfl rfl ⟨by rw [if_neg (by omega)], rfl⟩
    · rw [show am_cmp .ge n 8 = false by simp [am_cmp]; omega]
      iterate 2 (refine am_E.go rfl rfl ?_; dsimp only [Nat.reduceAdd])
      exact am_E.ret rfl rfl ⟨by rw [if_pos (by omega)], rfl⟩
theorem rn_X5_isSum (n : Int) (h : am_H) : am_E ac_X5_isSum (0, [vI n], [], h) (fun r h2 => r = some (vI (if 0 ≤ n ∧ n ≤ 7 then 1 else 0)) ∧ h2 = h) := by
  iterate 4 (refine am_E.go rfl rfl ?_; dsimp only [Nat.reduceAdd])
  refine am_E.call rfl rfl rfl (Nat.le_of_ble_eq_true rfl) (rn_in n 0 7 h) ?_
  rintro r h2 ⟨rfl, rfl⟩
  show am_E _ (9, [vI n], [vI (if 0 ≤ n ∧ n ≤ 7 then 1 else 0)], h2) _
  by_cases q : 0 ≤ n ∧ n ≤ 7
  · rw [if_pos q]
    exact am_E.ret rfl rfl ⟨rfl, rfl⟩
  · rw [if_neg q]
    exact am_E.ret rfl rfl ⟨rfl, rfl⟩
theorem rn_X4_isThrough (n t : Int) (h : am_H) : am_E ac_X4_isThrough (0, [vI n, vI t], [], h) (fun r h2 => r = some (vI (if (1 ≤ n ∧ n ≤ 4) ∧ 0 ≤ t ∧ t ≤ n then 1 else 0)) ∧ h2 = h) := by
  iterate 1 (refine am_E.go rfl rfl ?_; dsimp only [Nat.reduceAdd])
  refine am_E.call rfl rfl rfl (Nat.le_of_ble_eq_true rfl) (rn_isStrands n h) ?_
  rintro r h2 ⟨rfl, rfl⟩
  show am_E _ (4, [vI n, vI t], [vI (if 1 ≤ n ∧ n ≤ 4 then 1 else 0)], h2) _
  by_cases q : 1 ≤ n ∧ n ≤ 4
  · rw [if_pos q]
    iterate 3 (refine am_E.go rfl rfl ?_; dsimp only [Nat.reduceAdd])
    by_cases q1 : t < 0
    · rw [show am_cmp .lt t 0 = true by simp [am_cmp, q1]]
      iterate 1 (refine am_E.go rfl rfl ?_; dsimp only [Nat.reduceAdd])
      exact am_E.ret rfl rfl ⟨by rw [if_neg (by omega)], rfl⟩
    · rw [show am_cmp .lt t 0 = false by simp [am_cmp]; omega]
      iterate 3 (refine am_E.go rfl rfl ?_; dsimp only [Nat.reduceAdd])
      by_cases q2 : n < t
      · rw [show am_cmp .gt t n = true by simp [am_cmp, q2]]
        iterate 1 (refine am_E.go rfl rfl ?_; dsimp only [Nat.reduceAdd])
        exact am_E.ret rfl rfl ⟨by rw [if_neg (by omega)], rfl⟩
      · rw [show am_cmp .gt t n = false by simp [am_cmp]; omega]
        iterate 2 (refine am_E.go rfl rfl ?_; dsimp only [Nat.reduceAdd])
        exact am_E.ret rfl rfl ⟨by rw [if_pos (by omega)], rfl⟩
  · rw [if_neg q]
    iterate 2 (refine am_E.go rfl rfl ?_; dsimp only [Nat.reduceAdd])
    exact am_E.ret rfl rfl ⟨by rw [if_neg (fun z => q z.1)], rfl⟩
theorem rn_X5_areHalves (n t : Int) (h : am_H) : am_E ac_X5_areHalves (0, [vI n, vI t], [], h) (fun r h2 => r = some (vI (if (1 ≤ n ∧ n ≤ 4) ∧ 0 ≤ t ∧ t ≤ n then 1 else 0)) ∧ h2 = h) := by
  iterate 1 (refine am_E.go rfl rfl ?_; dsimp only [Nat.reduceAdd])
  refine am_E.call rfl rfl rfl (Nat.le_of_ble_eq_true rfl) (rn_isWide n h) ?_
  rintro r h2 ⟨rfl, rfl⟩
  show am_E _ (4, [vI n, vI t], [vI (if 1 ≤ n ∧ n ≤ 4 then 1 else 0)], h2) _
  by_cases q : 1 ≤ n ∧ n ≤ 4
  · rw [if_pos q]
    iterate 6 (refine am_E.go rfl rfl ?_; dsimp only [Nat.reduceAdd])
    refine am_E.call rfl rfl rfl (Nat.le_of_ble_eq_true rfl) (rn_in t 0 n h2) ?_
    rintro r h3 ⟨rfl, rfl⟩
    show am_E _ (15, [vI n, vI t], [vI (if 0 ≤ t ∧ t ≤ n then 1 else 0)], h3) _
    by_cases q1 : 0 ≤ t ∧ t ≤ n
    · rw [if_pos q1]
      iterate 3 (refine am_E.go rfl rfl ?_; dsimp only [Nat.reduceAdd])
      exact am_E.ret rfl rfl ⟨by rw [if_pos ⟨q, q1⟩], rfl⟩
    · rw [if_neg q1]
      iterate 2 (refine am_E.go rfl rfl ?_; dsimp only [Nat.reduceAdd])
      exact am_E.ret rfl rfl ⟨by rw [if_neg (fun z => q1 z.2)], rfl⟩
  · rw [if_neg q]
    iterate 2 (refine am_E.go rfl rfl ?_; dsimp only [Nat.reduceAdd])
    exact am_E.ret rfl rfl ⟨by rw [if_neg (fun z => q z.1)], rfl⟩
theorem rn_X3_begin {o : Nat} {g : Nat → am_V} {n : Int} {h : am_H} (ho : o < h.1) (hc : h.2.2 o = (13, 5, g)) : am_E ac_X3_begin (0, [vR o, vI n], [], h) (fun r h2 => r = none ∧ h2.1 = h.1 ∧ h2.2.1 = h.2.1 ∧ (∀ b, b ≠ o → h2.2.2 b = h.2.2 b) ∧ h2.2.2 o = (13, 5, am_up (am_up g 0 (vI n)) 1 (vI 0))) := by
  iterate 2 (refine am_E.go rfl rfl ?_; dsimp only [Nat.reduceAdd])
  refine ae_pf (x := 3) (y := 0) rfl ho hc (by omega) rfl ?_
  iterate 2 (refine am_E.go rfl rfl ?_; dsimp only [Nat.reduceAdd])
  refine ae_pf (x := 3) (y := 1) rfl ho (am_wr_same hc) (by omega) rfl ?_
  exact am_E.ret rfl rfl ⟨rfl, rfl, rfl, fun b hb => by rw [am_wr_ne hb, am_wr_ne hb], am_wr_same (am_wr_same hc)⟩
end
section
/-! Sum: small tests. -/
theorem rn_X3_isFactor (v : Int) (h : am_H) : am_E ac_X3_isFactor (0, [vL v, vU], [], h) (fun r h2 => r = some (vI (if -1000000000000 ≤ v ∧ v ≤ 1000000000000 then 1 else 0)) ∧ h2 = h) := by
  iterate 4 (refine am_E.go rfl rfl ?_; dsimp only [Nat.reduceAdd])
  rw [show am_cst 1 999999999999 = -1000000000000 by decide]
  by_cases h1 : v < -1000000000000
  · rw [show am_cmp .lt (if v < -1000000000000 then -1 else if v = -1000000000000 then 0 else 1) 0 = true by rw [if_pos h1]; rfl]
    iterate 1 (refine am_E.go rfl rfl ?_; dsimp only [Nat.reduceAdd])
    exact am_E.ret rfl rfl ⟨by rw [if_neg (by omega)], rfl⟩
  · rw [show am_cmp .lt (if v < -1000000000000 then -1 else if v = -1000000000000 then 0 else 1) 0 = false by rw [if_neg h1]; split <;> rfl]
    iterate 4 (refine am_E.go rfl rfl ?_; dsimp only [Nat.reduceAdd])
    rw [show am_cst 0 1000000000000 = 1000000000000 by decide]
    by_cases h2 : 1000000000000 < v
    · rw [show am_cmp .gt (if v < 1000000000000 then -1 else if v = 1000000000000 then 0 else 1) 0 = true by rw [if_neg (by omega), if_neg (by omega)]; rfl]
      iterate 1 (refine am_E.go rfl rfl ?_; dsimp only [Nat.reduceAdd])
      exact am_E.ret rfl rfl ⟨by rw [if_neg (by omega)], rfl⟩
    · rw [show am_cmp .gt (if v < 1000000000000 then -1 else if v = 1000000000000 then 0 else 1) 0 = false by split <;> (try split) <;> first | rfl | omega]
      iterate 2 (refine am_E.go rfl rfl ?_; dsimp only [Nat.reduceAdd])
      exact am_E.ret rfl rfl ⟨by rw [if_pos (by omega)], rfl⟩
/-- Sum.isAt(i, b, power): the numbers in the cell a, the powers in the cell b9 -/
theorem rn_X3_isAt {o a p i k : Nat} {g fa fp : Nat → am_V} {b pw xa xp : Int} {h : am_H} (ho : o < h.1) (hc : h.2.2 o = (13, 5, g)) (hk : g 1 = vI (k : Int)) (hk40 : k ≤ 40) (hga : g 2 = vR a) (hgp : g 3 = vR p) (ha : a < h.1) (hp : p < h.1) (hca : h.2.2 a = (0, 40, fa)) (hcp : h.2.2 p = (0, 40, fp)) (hxa : i < k → fa i = vI xa) (hxp : i < k → fp i = vI xp) :
    am_E ac_X3_isAt (0, [vR o, vI (i : Int), vI b, vI pw], [], h) (fun r h2 => r = some (vI (if i < k ∧ xa = b ∧ xp = pw then 1 else 0)) ∧ h2 = h) := by
  iterate 2 (refine am_E.go rfl rfl ?_; dsimp only [Nat.reduceAdd])
  refine ae_gf (x := 3) (y := 1) rfl ho hc (by omega) hk ?_
  iterate 1 (refine am_E.go rfl rfl ?_; dsimp only [Nat.reduceAdd])
  by_cases q : i < k
  · rw [show am_cmp .ge (i : Int) (k : Int) = false by simp [am_cmp]; omega]
    iterate 1 (refine am_E.go rfl rfl ?_; dsimp only [Nat.reduceAdd])
    refine ae_gf (x := 3) (y := 2) rfl ho hc (by omega) hga ?_
    iterate 1 (refine am_E.go rfl rfl ?_; dsimp only [Nat.reduceAdd])
    refine ae_ald (ok := fun k => k == 0) rfl rfl ha hca rfl rfl (j := i) (by omega) (hxa q) ?_
    iterate 2 (refine am_E.go rfl rfl ?_; dsimp only [Nat.reduceAdd])
    by_cases q1 : xa = b
    · rw [show am_cmp .ne xa b = false by simp [am_cmp, q1]]
      iterate 1 (refine am_E.go rfl rfl ?_; dsimp only [Nat.reduceAdd])
      refine ae_gf (x := 3) (y := 3) rfl ho hc (by omega) hgp ?_
      iterate 1 (refine am_E.go rfl rfl ?_; dsimp only [Nat.reduceAdd])
      refine ae_ald (ok := fun k => k == 0) rfl rfl hp hcp rfl rfl (j := i) (by omega) (hxp q) ?_
      iterate 2 (refine am_E.go rfl rfl ?_; dsimp only [Nat.reduceAdd])
      by_cases q2 : xp = pw
      · rw [show am_cmp .ne xp pw = false by simp [am_cmp, q2]]
        iterate 2 (refine am_E.go rfl rfl ?_; dsimp only [Nat.reduceAdd])
        exact am_E.ret rfl rfl ⟨by rw [if_pos ⟨q, q1, q2⟩], rfl⟩
      · rw [show am_cmp .ne xp pw = true by simp [am_cmp, q2]]
        iterate 1 (refine am_E.go rfl rfl ?_; dsimp only [Nat.reduceAdd])
        exact am_E.ret rfl rfl ⟨by rw [if_neg (fun z => q2 z.2.2)], rfl⟩
    · rw [show am_cmp .ne xa b = true by simp [am_cmp, q1]]
      iterate 1 (refine am_E.go rfl rfl ?_; dsimp only [Nat.reduceAdd])
      exact am_E.ret rfl rfl ⟨by rw [if_neg (fun z => q1 z.2.1)], rfl⟩
  · rw [show am_cmp .ge (i : Int) (k : Int) = true by simp [am_cmp]; omega]
    iterate 1 (refine am_E.go rfl rfl ?_; dsimp only [Nat.reduceAdd])
    exact am_E.ret rfl rfl ⟨by rw [if_neg (fun z => q z.1)], rfl⟩
end
section
/-! Boxes: small methods. -/
theorem rn_X0_forgetSeen {o a N len : Nat} {h : am_H} {g f : Nat → am_V} (hN : N ≤ len) (hN8 : N ≤ 8) (hoa : o ≠ a) (ho : o < h.1) (ha : a < h.1) (hc : h.2.2 o = (10, 11, g)) (h1 : g 1 = vI (N : Int)) (h10 : g 10 = vR a) (hca : h.2.2 a = (1, len, f)) :
    am_E ac_X0_forgetSeen (0, [vR o, vU], [], h) (fun r h2 => r = none ∧ h2.1 = h.1 ∧ h2.2.1 = h.2.1 ∧ (∀ b, b ≠ a → h2.2.2 b = h.2.2 b) ∧ ∃ f2, h2.2.2 a = (1, len, f2) ∧ (∀ j, j < N → f2 j = vI 0) ∧ ∀ j, N ≤ j → f2 j = f j) := by
  iterate 2 (refine am_E.go rfl rfl ?_; dsimp only [Nat.reduceAdd])
  show am_E _ (2, [vR o, vI ((0 : Nat) : Int)], [], h) _
  exact rn_forget_loop hN hN8 hoa N 0 h g f (by omega) ho ha hc h1 h10 hca (fun j hj => absurd hj (by omega))
theorem rn_X0_placeRound {o : Nat} {g : Nat → am_V} {S N p : Int} {h : am_H} (ho : o < h.1) (hc : h.2.2 o = (10, 11, g)) (hS : g 0 = vI S) (hN : g 1 = vI N) : am_E ac_X0_placeRound (0, [vR o, vI p], [], h) (fun r h2 => r = some (vI (if p < S then p else am_w (am_w (am_w (S + N) - 1) - p))) ∧ h2 = h) := by
  iterate 2 (refine am_E.go rfl rfl ?_; dsimp only [Nat.reduceAdd])
  refine ae_gf (x := 0) (y := 0) rfl ho hc (by omega) hS ?_
  iterate 1 (refine am_E.go rfl rfl ?_; dsimp only [Nat.reduceAdd])
  by_cases q : p < S
  · rw [show am_cmp .ge p S = false by simp [am_cmp]; omega]
    iterate 2 (refine am_E.go rfl rfl ?_; dsimp only [Nat.reduceAdd])
    exact am_E.ret rfl rfl ⟨by rw [if_pos q], rfl⟩
  · rw [show am_cmp .ge p S = true by simp [am_cmp]; omega]
    iterate 1 (refine am_E.go rfl rfl ?_; dsimp only [Nat.reduceAdd])
    refine ae_gf (x := 0) (y := 0) rfl ho hc (by omega) hS ?_
    iterate 1 (refine am_E.go rfl rfl ?_; dsimp only [Nat.reduceAdd])
    refine ae_gf (x := 0) (y := 1) rfl ho hc (by omega) hN ?_
    iterate 5 (refine am_E.go rfl rfl ?_; dsimp only [Nat.reduceAdd])
    exact am_E.ret rfl rfl ⟨by rw [if_neg q], rfl⟩
theorem rn_X5_round (n p : Int) (h : am_H) : am_E ac_X5_round (0, [vI n, vI p], [], h) (fun r h2 => r = some (vI (if p < n then p else am_w (am_w (am_w (3 * n) - 1) - p))) ∧ h2 = h) := by
  iterate 3 (refine am_E.go rfl rfl ?_; dsimp only [Nat.reduceAdd])
  by_cases q : p < n
  · rw [show am_cmp .ge p n = false by simp [am_cmp]; omega]
    iterate 2 (refine am_E.go rfl rfl ?_; dsimp only [Nat.reduceAdd])
    exact am_E.ret rfl rfl ⟨by rw [if_pos q], rfl⟩
  · rw [show am_cmp .ge p n = true by simp [am_cmp]; omega]
    iterate 7 (refine am_E.go rfl rfl ?_; dsimp only [Nat.reduceAdd])
    exact am_E.ret rfl rfl ⟨by rw [if_neg q], rfl⟩
theorem rn_X0_letterAt {o : Nat} {g : Nat → am_V} {S p : Int} {h : am_H} (ho : o < h.1) (hc : h.2.2 o = (10, 11, g)) (hS : g 0 = vI S) : am_E ac_X0_letterAt (0, [vR o, vI p], [], h) (fun r h2 => r = some (vI (if p < am_w (S - 1) then am_w (p + 1) else am_w (am_w (p - am_w (S - 1)) + 11))) ∧ h2 = h) := by
  iterate 2 (refine am_E.go rfl rfl ?_; dsimp only [Nat.reduceAdd])
  refine ae_gf (x := 0) (y := 0) rfl ho hc (by omega) hS ?_
  iterate 3 (refine am_E.go rfl rfl ?_; dsimp only [Nat.reduceAdd])
  by_cases q : p < am_w (S - 1)
  · rw [show am_cmp .ge p (am_w (S - 1)) = false by simp [am_cmp]; omega]
    iterate 4 (refine am_E.go rfl rfl ?_; dsimp only [Nat.reduceAdd])
    exact am_E.ret rfl rfl ⟨by rw [if_pos q], rfl⟩
  · rw [show am_cmp .ge p (am_w (S - 1)) = true by simp [am_cmp]; omega]
    iterate 2 (refine am_E.go rfl rfl ?_; dsimp only [Nat.reduceAdd])
    refine ae_gf (x := 0) (y := 0) rfl ho hc (by omega) hS ?_
    iterate 5 (refine am_E.go rfl rfl ?_; dsimp only [Nat.reduceAdd])
    exact am_E.ret rfl rfl ⟨by rw [if_neg q], rfl⟩
theorem rn_X0_pair {a n i j : Nat} {f : Nat → am_V} {h : am_H} (ha : a < h.1) (hc : h.2.2 a = (0, n, f)) (hi : i < n) (hj : j < n) : am_E ac_X0_pair (0, [vR a, vI (i : Int), vI (j : Int)], [], h) (fun r h2 => r = none ∧ h2.1 = h.1 ∧ h2.2.1 = h.2.1 ∧ (∀ b, b ≠ a → h2.2.2 b = h.2.2 b) ∧ h2.2.2 a = (0, n, am_up (am_up f i (vI (j : Int))) j (vI (i : Int)))) := by
  iterate 3 (refine am_E.go rfl rfl ?_; dsimp only [Nat.reduceAdd])
  refine ae_ast (kd := 0) rfl rfl ha hc rfl (j := i) hi rfl ?_
  iterate 3 (refine am_E.go rfl rfl ?_; dsimp only [Nat.reduceAdd])
  refine ae_ast (kd := 0) rfl rfl ha (am_wr_same hc) rfl (j := j) hj rfl ?_
  exact am_E.ret rfl rfl ⟨rfl, rfl, rfl, fun b hb => by rw [am_wr_ne hb, am_wr_ne hb], am_wr_same (am_wr_same hc)⟩
end
section
/-! countPairings, at the four numbers of points. -/
theorem rn_X0_count2 (h : am_H) : am_E ac_X0_countPairings (0, [vI 2, vU, vU], [], h) (fun r h2 => r = some (vI 1) ∧ h2 = h) := by
  repeat (refine am_E.go rfl rfl ?_; dsimp only [Nat.reduceAdd])
  exact am_E.ret rfl rfl ⟨rfl, rfl⟩
theorem rn_X0_count4 (h : am_H) : am_E ac_X0_countPairings (0, [vI 4, vU, vU], [], h) (fun r h2 => r = some (vI 3) ∧ h2 = h) := by
  repeat (refine am_E.go rfl rfl ?_; dsimp only [Nat.reduceAdd])
  exact am_E.ret rfl rfl ⟨rfl, rfl⟩
theorem rn_X0_count6 (h : am_H) : am_E ac_X0_countPairings (0, [vI 6, vU, vU], [], h) (fun r h2 => r = some (vI 15) ∧ h2 = h) := by
  repeat (refine am_E.go rfl rfl ?_; dsimp only [Nat.reduceAdd])
  exact am_E.ret rfl rfl ⟨rfl, rfl⟩
theorem rn_X0_count8 (h : am_H) : am_E ac_X0_countPairings (0, [vI 8, vU, vU], [], h) (fun r h2 => r = some (vI 105) ∧ h2 = h) := by
  repeat (refine am_E.go rfl rfl ?_; dsimp only [Nat.reduceAdd])
  exact am_E.ret rfl rfl ⟨rfl, rfl⟩
end
section
/-! The reference's move(to, from): one place of the row's three arrays. -/
theorem rn_X5_move {x a b c i j : Nat} {g fa fb fc : Nat → am_V} {va vb vc : Int} {h : am_H} (hx : x < h.1) (hc : h.2.2 x = (15, 27, g)) (hga : g 18 = vR a) (hgb : g 19 = vR b) (hgc : g 20 = vR c) (ha : a < h.1) (hb : b < h.1) (hcc : c < h.1) (hca : h.2.2 a = (0, 42, fa)) (hcb : h.2.2 b = (0, 42, fb)) (hcd : h.2.2 c = (2, 42, fc)) (hxa : x ≠ a) (hxb : x ≠ b) (hab : b ≠ a) (hac : c ≠ a) (hbc : c ≠ b) (hi : i < 42) (hj : j < 42) (hva : fa j = vI va) (hvb : fb j = vI vb) (hvc : fc j = vL vc) :
    am_E ac_X5_move (0, [vR x, vI (i : Int), vI (j : Int)], [], h) (fun r h2 => r = none ∧ h2.1 = h.1 ∧ h2.2.1 = h.2.1 ∧ (∀ d, d ≠ a → d ≠ b → d ≠ c → h2.2.2 d = h.2.2 d) ∧ h2.2.2 a = (0, 42, am_up fa i (vI va)) ∧ h2.2.2 b = (0, 42, am_up fb i (vI vb)) ∧ h2.2.2 c = (2, 42, am_up fc i (vL vc))) := by
  iterate 1 (refine am_E.go rfl rfl ?_; dsimp only [Nat.reduceAdd])
  refine ae_gf (x := 5) (y := 18) rfl hx hc (by omega) hga ?_
  iterate 2 (refine am_E.go rfl rfl ?_; dsimp only [Nat.reduceAdd])
  refine ae_gf (x := 5) (y := 18) rfl hx hc (by omega) hga ?_
  iterate 1 (refine am_E.go rfl rfl ?_; dsimp only [Nat.reduceAdd])
  refine ae_ald (ok := fun k => k == 0) rfl rfl ha hca rfl rfl (j := j) hj hva ?_
  refine ae_ast (kd := 0) rfl rfl ha hca rfl (j := i) hi rfl ?_
  have hc1 : (am_wr h a i (vI va)).2.2 x = (15, 27, g) := by rw [am_wr_ne hxa]; exact hc
  have hb1 : (am_wr h a i (vI va)).2.2 b = (0, 42, fb) := by rw [am_wr_ne hab]; exact hcb
  have hd1 : (am_wr h a i (vI va)).2.2 c = (2, 42, fc) := by rw [am_wr_ne hac]; exact hcd
  iterate 1 (refine am_E.go rfl rfl ?_; dsimp only [Nat.reduceAdd])
  refine ae_gf (x := 5) (y := 19) rfl hx hc1 (by omega) hgb ?_
  iterate 2 (refine am_E.go rfl rfl ?_; dsimp only [Nat.reduceAdd])
  refine ae_gf (x := 5) (y := 19) rfl hx hc1 (by omega) hgb ?_
  iterate 1 (refine am_E.go rfl rfl ?_; dsimp only [Nat.reduceAdd])
  refine ae_ald (ok := fun k => k == 0) rfl rfl hb hb1 rfl rfl (j := j) hj hvb ?_
  refine ae_ast (kd := 0) rfl rfl hb hb1 rfl (j := i) hi rfl ?_
  have hc2 : (am_wr (am_wr h a i (vI va)) b i (vI vb)).2.2 x = (15, 27, g) := by rw [am_wr_ne hxb]; exact hc1
  have hd2 : (am_wr (am_wr h a i (vI va)) b i (vI vb)).2.2 c = (2, 42, fc) := by rw [am_wr_ne hbc]; exact hd1
  iterate 1 (refine am_E.go rfl rfl ?_; dsimp only [Nat.reduceAdd])
  refine ae_gf (x := 5) (y := 20) rfl hx hc2 (by omega) hgc ?_
  iterate 2 (refine am_E.go rfl rfl ?_; dsimp only [Nat.reduceAdd])
  refine ae_gf (x := 5) (y := 20) rfl hx hc2 (by omega) hgc ?_
  iterate 1 (refine am_E.go rfl rfl ?_; dsimp only [Nat.reduceAdd])
  refine ae_ald (ok := fun k => k == 2) rfl rfl hcc hd2 rfl rfl (j := j) hj hvc ?_
  refine ae_ast (kd := 2) rfl rfl hcc hd2 rfl (j := i) hi rfl ?_
  exact am_E.ret rfl rfl ⟨rfl, rfl, rfl, fun d h1 h2 h3 => by rw [am_wr_ne h3, am_wr_ne h2, am_wr_ne h1], by rw [am_wr_ne (Ne.symm hac), am_wr_ne (Ne.symm hab)]; exact am_wr_same hca, by rw [am_wr_ne (Ne.symm hbc)]; exact am_wr_same hb1, am_wr_same hd2⟩
end
section
/-! Heaps of a fixed shape: F tells of each cell its kind, its length, and of each place whether it holds a number of the contents c or a value that stays. -/
abbrev aq_T : Type := Nat ⊕ am_V
def aq_w (t : aq_T) (x : Int) : am_V := match t with
  | .inl 2 => vL x
  | .inl _ => vI x
  | .inr v => v
abbrev aq_F : Type := Nat → Nat × Nat × (Nat → aq_T)
abbrev aq_C : Type := Nat → Int → Int
def aq_h (m s : Nat) (F : aq_F) (c : aq_C) : am_H := (m, s, fun a => ((F a).1, (F a).2.1, fun i => aq_w ((F a).2.2 i) (c a (i : Int))))
def aq_u (c : aq_C) (a : Nat) (i x : Int) : aq_C := fun b j => if b = a ∧ j = i then x else c b j
theorem aq_us {c : aq_C} {a : Nat} {i x : Int} : aq_u c a i x a i = x := by simp [aq_u]
theorem aq_un {c : aq_C} {a b : Nat} {i j x : Int} (h : b ≠ a ∨ j ≠ i) : aq_u c a i x b j = c b j := by
  unfold aq_u
  rw [if_neg]
  omega
theorem aq_hc {m s : Nat} {F : aq_F} {c : aq_C} {a kd n : Nat} {tg : Nat → aq_T} (hF : F a = (kd, n, tg)) : (aq_h m s F c).2.2 a = (kd, n, fun i => aq_w (tg i) (c a (i : Int))) := by
  show ((F a).1, (F a).2.1, fun i => aq_w ((F a).2.2 i) (c a (i : Int))) = _
  rw [hF]
theorem aq_wr {m s : Nat} {F : aq_F} {c : aq_C} {a i kd n t : Nat} {x : Int} {tg : Nat → aq_T} (hF : F a = (kd, n, tg)) (ht : tg i = .inl t) : am_wr (aq_h m s F c) a i (aq_w (.inl t) x) = aq_h m s F (aq_u c a (i : Int) x) := by
  have e : (fun b => if b = a then (((aq_h m s F c).2.2 a).1, ((aq_h m s F c).2.2 a).2.1, am_up ((aq_h m s F c).2.2 a).2.2 i (aq_w (.inl t) x)) else (aq_h m s F c).2.2 b) = (aq_h m s F (aq_u c a (i : Int) x)).2.2 := by
    funext b
    by_cases hb : b = a
    · subst hb
      rw [if_pos rfl, aq_hc hF, aq_hc hF]
      refine congrArg (fun f => (kd, n, f)) ?_
      funext j
      unfold am_up
      by_cases hj : j = i
      · subst hj
        rw [if_pos rfl, aq_us, ht]
      · rw [if_neg hj, aq_un (Or.inr (by omega))]
    · rw [if_neg hb]
      show ((F b).1, (F b).2.1, fun i => aq_w ((F b).2.2 i) (c b (i : Int))) = ((F b).1, (F b).2.1, fun k => aq_w ((F b).2.2 k) (aq_u c a (i : Int) x b (k : Int)))
      refine congrArg (fun f => ((F b).1, (F b).2.1, f)) ?_
      funext j
      rw [aq_un (Or.inl hb)]
  show (m, s, fun b => if b = a then (((aq_h m s F c).2.2 a).1, ((aq_h m s F c).2.2 a).2.1, am_up ((aq_h m s F c).2.2 a).2.2 i (aq_w (.inl t) x)) else (aq_h m s F c).2.2 b) = (m, s, (aq_h m s F (aq_u c a (i : Int) x)).2.2)
  rw [e]
/-- several steps, none of them a call or an end -/
def am_stp (C : am_C) : Nat → am_S → Option am_S
  | 0, s => some s
  | n + 1, s => match am_1 ac_ft C s with
    | some (.inl t) => am_stp C n t
    | _ => none
theorem am_E.blk {C : am_C} : ∀ (n : Nat) {s t : am_S} {Z : Option am_V → am_H → Prop}, am_stp C n s = some t → am_E C t Z → am_E C s Z
  | 0, s, t, Z, h, k => by
    cases h
    exact k
  | n + 1, s, t, Z, h, k => by
    rw [am_stp] at h
    split at h
    · rename_i t2 e
      obtain ⟨n5, r, h2, h3, h4⟩ := am_E.blk n h k
      exact ⟨n5 + 1, r, h2, by rw [am_x_s e]; exact h3, h4⟩
    · cases h
def am_cP (cd : Jvm.ClassFile.Cond) (x y : Int) : Prop := match cd with
  | .eq => x = y
  | .ne => x ≠ y
  | .lt => x < y
  | .ge => y ≤ x
  | .gt => y < x
  | .le => x ≤ y
def am_cN (cd : Jvm.ClassFile.Cond) (x y : Int) : Prop := match cd with
  | .eq => x ≠ y
  | .ne => x = y
  | .lt => y ≤ x
  | .ge => x < y
  | .gt => x ≤ y
  | .le => y < x
theorem am_cPt {cd : Jvm.ClassFile.Cond} {x y : Int} (h : am_cmp cd x y = true) : am_cP cd x y := by
  cases cd <;> simp only [am_cmp, decide_eq_true_eq] at h <;> simp only [am_cP] <;> omega
theorem am_cNt {cd : Jvm.ClassFile.Cond} {x y : Int} (h : am_cmp cd x y = false) : am_cN cd x y := by
  cases cd <;> simp only [am_cmp, decide_eq_false_iff_not] at h <;> simp only [am_cN] <;> omega
theorem am_ri {x : Int} (h1 : -2147483648 ≤ x) (h2 : x < 2147483648) : am_r32 x := ⟨h1, h2⟩
theorem am_rl {x : Int} (h1 : -9223372036854775808 ≤ x) (h2 : x < 9223372036854775808) : am_r64 x := ⟨h1, h2⟩
section AE
variable {C : am_C} {pc : Nat} {ls st : List am_V} {h : am_H} {Z : Option am_V → am_H → Prop} {m s : Nat} {F : aq_F} {c : aq_C}
theorem ae_icmp {cd : Jvm.ClassFile.Cond} {off : Int} {x y : Nat} {a b : Int} (hrow : am_row C pc = some (.if_icmp cd off, 3, x, y)) (k1 : am_cP cd a b → am_E C (x, ls, st, h) Z) (k2 : am_cN cd a b → am_E C (pc + 3, ls, st, h) Z) : am_E C (pc, ls, vI b :: vI a :: st, h) Z := by
  refine am_E.go hrow (t2 := ((if am_cmp cd a b then x else pc + 3), ls, st, h)) rfl ?_
  cases e : am_cmp cd a b with
  | true => rw [if_pos rfl]; exact k1 (am_cPt e)
  | false => rw [if_neg (by simp)]; exact k2 (am_cNt e)
theorem ae_if0 {cd : Jvm.ClassFile.Cond} {off : Int} {x y : Nat} {a : Int} (hrow : am_row C pc = some (.ifCond cd off, 3, x, y)) (k1 : am_cP cd a 0 → am_E C (x, ls, st, h) Z) (k2 : am_cN cd a 0 → am_E C (pc + 3, ls, st, h) Z) : am_E C (pc, ls, vI a :: st, h) Z := by
  refine am_E.go hrow (t2 := ((if am_cmp cd a 0 then x else pc + 3), ls, st, h)) rfl ?_
  cases e : am_cmp cd a 0 with
  | true => rw [if_pos rfl]; exact k1 (am_cPt e)
  | false => rw [if_neg (by simp)]; exact k2 (am_cNt e)
theorem ae_bin {ins : Instr} {f : Int → Int → Option Int} {x y : Nat} {a b z : Int} (hrow : am_row C pc = some (ins, 1, x, y)) (hs : am_sem ac_ft ins = am_bin f) (hz : f a b = some z) (k : am_E C (pc + 1, ls, vI z :: st, h) Z) : am_E C (pc, ls, vI b :: vI a :: st, h) Z := by
  refine am_E.go hrow ?_ k
  show am_sem ac_ft ins 1 x y (pc, ls, vI b :: vI a :: st, h) = _
  rw [hs]
  show (f a b).map _ = _
  rw [hz]
  rfl
theorem ae_binl {ins : Instr} {f : Int → Int → Option Int} {x y : Nat} {a b z : Int} (hrow : am_row C pc = some (ins, 1, x, y)) (hs : am_sem ac_ft ins = am_binl f) (hz : f a b = some z) (k : am_E C (pc + 1, ls, vL z :: st, h) Z) : am_E C (pc, ls, vL b :: vL a :: st, h) Z := by
  refine am_E.go hrow ?_ k
  show am_sem ac_ft ins 1 x y (pc, ls, vL b :: vL a :: st, h) = _
  rw [hs]
  show (f a b).map _ = _
  rw [hz]
  rfl
theorem ae_add {x y : Nat} {a b : Int} (hrow : am_row C pc = some (.iadd, 1, x, y)) (hr : am_r32 (a + b)) (k : am_E C (pc + 1, ls, vI (a + b) :: st, h) Z) : am_E C (pc, ls, vI b :: vI a :: st, h) Z := ae_bin hrow rfl (by rw [am_w_id hr]) k
theorem ae_sub {x y : Nat} {a b : Int} (hrow : am_row C pc = some (.isub, 1, x, y)) (hr : am_r32 (a - b)) (k : am_E C (pc + 1, ls, vI (a - b) :: st, h) Z) : am_E C (pc, ls, vI b :: vI a :: st, h) Z := ae_bin hrow rfl (by rw [am_w_id hr]) k
theorem ae_mul {x y : Nat} {a b : Int} (hrow : am_row C pc = some (.imul, 1, x, y)) (hr : am_r32 (a * b)) (k : am_E C (pc + 1, ls, vI (a * b) :: st, h) Z) : am_E C (pc, ls, vI b :: vI a :: st, h) Z := ae_bin hrow rfl (by rw [am_w_id hr]) k
theorem ae_iinc {i x y : Nat} {n a : Int} (hrow : am_row C pc = some (.iinc i n, 3, x, y)) (hl : ls[i]? = some (vI a)) (hr : am_r32 (a + n)) (k : am_E C (pc + 3, (am_cl ls i).set i (vI (a + n)), st, h) Z) : am_E C (pc, ls, st, h) Z := by
  refine am_E.go hrow ?_ k
  show am_iinc i n 3 x y (pc, ls, st, h) = _
  unfold am_iinc
  simp only [hl]
  rw [am_w_id hr]
theorem aq_gf {i x y o n : Nat} {tg : Nat → aq_T} {v : am_V} (hrow : am_row C pc = some (.getfield i, 3, x, y)) (ho : o < m) (hF : F o = (10 + x, n, tg)) (hy : y < n) (hv : aq_w (tg y) (c o (y : Int)) = v) (k : am_E C (pc + 3, ls, v :: st, aq_h m s F c) Z) : am_E C (pc, ls, vR o :: st, aq_h m s F c) Z :=
  ae_gf hrow ho (aq_hc hF) hy hv k
theorem aq_pf {i x y o n : Nat} {tg : Nat → aq_T} {z : Int} (hrow : am_row C pc = some (.putfield i, 3, x, y)) (ho : o < m) (hF : F o = (10 + x, n, tg)) (hy : y < n) (ht : tg y = .inl 0) (hv : am_fok (ac_ft x y) (vI z) = true) (k : am_E C (pc + 3, ls, st, aq_h m s F (aq_u c o (y : Int) z)) Z) : am_E C (pc, ls, vI z :: vR o :: st, aq_h m s F c) Z :=
  ae_pf (h := aq_h m s F c) hrow ho (aq_hc hF) hy hv (by rw [show vI z = aq_w (.inl 0) z from rfl, aq_wr hF ht]; exact k)
theorem aq_al {ins : Instr} {ok : Nat → Bool} {x y a kd n : Nat} {i : Int} {tg : Nat → aq_T} {v : am_V} (hrow : am_row C pc = some (ins, 1, x, y)) (hs : am_sem ac_ft ins = am_ald ok) (ha : a < m) (hF : F a = (kd, n, tg)) (hok : ok kd = true) (h0 : 0 ≤ i) (hi : i < (n : Int)) (hv : aq_w (tg i.toNat) (c a i) = v) (k : am_E C (pc + 1, ls, v :: st, aq_h m s F c) Z) : am_E C (pc, ls, vI i :: vR a :: st, aq_h m s F c) Z := by
  refine ae_ald (h := aq_h m s F c) (j := i.toNat) (f := fun j => aq_w (tg j) (c a (j : Int))) hrow hs ha (aq_hc hF) hok (by omega) (by omega) ?_ k
  rw [← hv]
  show aq_w (tg i.toNat) (c a ((i.toNat : Nat) : Int)) = _
  rw [Int.toNat_of_nonneg h0]
/-- a table that stays -/
theorem aq_alt {ins : Instr} {ok : Nat → Bool} {x y a kd n : Nat} {i : Int} {t : Int → Int} (hrow : am_row C pc = some (ins, 1, x, y)) (hs : am_sem ac_ft ins = am_ald ok) (ha : a < m) (hF : F a = (kd, n, fun j => .inr (vI (t (j : Int))))) (hok : ok kd = true) (h0 : 0 ≤ i) (hi : i < (n : Int)) (k : am_E C (pc + 1, ls, vI (t i) :: st, aq_h m s F c) Z) : am_E C (pc, ls, vI i :: vR a :: st, aq_h m s F c) Z :=
  aq_al hrow hs ha hF hok h0 hi (by show vI (t ((i.toNat : Nat) : Int)) = _; rw [Int.toNat_of_nonneg h0]) k
theorem aq_as {ins : Instr} {x y a kd n : Nat} {i z : Int} {tg : Nat → aq_T} (hrow : am_row C pc = some (ins, 1, x, y)) (hs : am_sem ac_ft ins = am_ast kd kd) (ha : a < m) (hF : F a = (kd, n, tg)) (h0 : 0 ≤ i) (hi : i < (n : Int)) (ht : tg i.toNat = .inl 0) (hv : am_fok kd (vI z) = true) (k : am_E C (pc + 1, ls, st, aq_h m s F (aq_u c a i z)) Z) : am_E C (pc, ls, vI z :: vI i :: vR a :: st, aq_h m s F c) Z := by
  refine ae_ast (h := aq_h m s F c) (j := i.toNat) hrow hs ha (aq_hc hF) (by omega) (by omega) hv ?_
  rw [show vI z = aq_w (.inl 0) z from rfl, aq_wr hF ht, Int.toNat_of_nonneg h0]
  exact k
theorem aq_asl {ins : Instr} {x y a n : Nat} {i z : Int} {tg : Nat → aq_T} (hrow : am_row C pc = some (ins, 1, x, y)) (hs : am_sem ac_ft ins = am_ast 2 2) (ha : a < m) (hF : F a = (2, n, tg)) (h0 : 0 ≤ i) (hi : i < (n : Int)) (ht : tg i.toNat = .inl 2) (k : am_E C (pc + 1, ls, st, aq_h m s F (aq_u c a i z)) Z) : am_E C (pc, ls, vL z :: vI i :: vR a :: st, aq_h m s F c) Z := by
  refine ae_ast (h := aq_h m s F c) (j := i.toNat) hrow hs ha (aq_hc hF) (by omega) (by omega) rfl ?_
  rw [show vL z = aq_w (.inl 2) z from rfl, aq_wr hF ht, Int.toNat_of_nonneg h0]
  exact k
theorem aq_len {x y a kd n : Nat} {tg : Nat → aq_T} (hrow : am_row C pc = some (.arraylength, 1, x, y)) (ha : a < m) (hF : F a = (kd, n, tg)) (hk : kd < 7) (k : am_E C (pc + 1, ls, vI (n : Int) :: st, aq_h m s F c) Z) : am_E C (pc, ls, vR a :: st, aq_h m s F c) Z := by
  refine am_E.go hrow ?_ k
  show am_len 1 x y (pc, ls, vR a :: st, aq_h m s F c) = _
  unfold am_len
  simp only [aq_hc hF]
  rw [if_pos ⟨ha, hk⟩]
theorem aq_callv {ins : Instr} {x y mL a n : Nat} {tg : Nat → aq_T} {as2 rest : List am_V} {C2 : am_C} {Z2 : Option am_V → am_H → Prop} (hrow : am_row C pc = some (ins, 3, x, y)) (hs : am_sem ac_ft ins = am_inv) (hx : 1000 ≤ x) (hy : y ≤ st.length) (has : (st.take y).reverse = vR a :: as2) (hrest : st.drop y = rest) (hcat : (rest.map am_cat).sum ≤ 8) (ha : a < m) (hF : F a = (9 + x / 1000, n, tg))
    (hM : ac_L[x % 1000]? = some (C2, mL)) (hcat2 : ((vR a :: as2).map am_cat).sum ≤ mL) (hk : am_E C2 (0, am_pad mL (vR a :: as2), [], aq_h m s F c) Z2) (k : ∀ r h2, Z2 r h2 → am_E C (pc + 3, ls, r.toList ++ rest, h2) Z) : am_E C (pc, ls, st, aq_h m s F c) Z :=
  ae_callv (h := aq_h m s F c) hrow hs hx hy has hrest hcat ha (aq_hc hF) hM hcat2 hk k
end AE
/-- the contents are the same off the cells of S -/
def aq_sm (S : Nat → Prop) (c d : aq_C) : Prop := ∀ a, ¬ S a → ∀ i, d a i = c a i
theorem aq_sm0 {S : Nat → Prop} {c : aq_C} : aq_sm S c c := fun _ _ _ => rfl
theorem aq_smt {S : Nat → Prop} {c d e : aq_C} (h1 : aq_sm S c d) (h2 : aq_sm S d e) : aq_sm S c e := fun a ha i => by rw [h2 a ha i, h1 a ha i]
theorem aq_smu {S : Nat → Prop} {c d e : aq_C} {a : Nat} {i x : Int} (h1 : aq_sm S c d) (he : aq_u d a i x = e) (ha : S a) : aq_sm S c e := fun b hb j => by
  have hne : b ≠ a := fun q => hb (by rw [q]; exact ha)
  rw [← he, aq_un (Or.inl hne), h1 b hb j]
theorem aq_smi {S S2 : Nat → Prop} {c d : aq_C} (h : aq_sm S c d) (hi : ∀ a, S a → S2 a) : aq_sm S2 c d := fun a ha i => h a (fun q => ha (hi a q)) i
/-- a method's end: the heap is as it was, P holds of the answer -/
def aq_P (m s : Nat) (F : aq_F) (c : aq_C) (P : Option am_V → Prop) : Option am_V → am_H → Prop := fun r h2 => h2 = aq_h m s F c ∧ P r
/-- a method's end: the contents have changed on S alone, P holds of the answer and the contents -/
def aq_Z (m s : Nat) (F : aq_F) (S : Nat → Prop) (c : aq_C) (P : Option am_V → aq_C → Prop) : Option am_V → am_H → Prop := fun r h2 => ∃ d, h2 = aq_h m s F d ∧ aq_sm S c d ∧ P r d
/-- some number -/
def aq_vi (r : Option am_V) : Prop := ∃ v, r = some (vI v)
/-- 0 or 1 -/
def aq_vb (r : Option am_V) : Prop := ∃ v, r = some (vI v) ∧ (v = 0 ∨ v = 1)
/-- the first N places of cell a lie from lo up to below hi -/
def aq_rg (a : Nat) (N lo hi : Int) (c : aq_C) : Prop := ∀ i, 0 ≤ i → i < N → lo ≤ c a i ∧ c a i < hi
theorem aq_rgu {a : Nat} {N lo hi i x : Int} {c d : aq_C} (h : aq_rg a N lo hi c) (he : aq_u c a i x = d) (h1 : lo ≤ x) (h2 : x < hi) : aq_rg a N lo hi d := by
  intro j h3 h4
  rw [← he]
  unfold aq_u
  split
  · exact ⟨h1, h2⟩
  · exact h j h3 h4
theorem aq_rgn {a b : Nat} {N lo hi i x : Int} {c d : aq_C} (h : aq_rg a N lo hi c) (he : aq_u c b i x = d) (hb : a ≠ b) : aq_rg a N lo hi d := by
  intro j h3 h4
  rw [← he, aq_un (Or.inl hb)]
  exact h j h3 h4
theorem aq_rgs {S : Nat → Prop} {a : Nat} {N lo hi : Int} {c d : aq_C} (h : aq_rg a N lo hi c) (hs : aq_sm S c d) (ha : ¬ S a) : aq_rg a N lo hi d := by
  intro j h3 h4
  rw [hs a ha]
  exact h j h3 h4
end
section
/-! The shape of an object of Boxes with n strands and K boxes, at o: its arrays lie behind it in the order in which they are made. -/
def bx_t (o n K : Nat) : Nat → aq_T := fun y => match y with
  | 0 => .inr (vI (n : Int))
  | 1 => .inr (vI (2 * (n : Int)))
  | 2 => .inr (vI (2 * (n : Int) - 2))
  | 3 => .inr (vI (K : Int))
  | 4 => .inr (vR (o + 1))
  | 5 => .inr (vR (o + 2 + K))
  | 6 => .inr (vR (o + 3 + K))
  | 7 => .inr (vR (o + 4 + K))
  | 8 => .inr (vR (o + 5 + 2 * K))
  | 9 => .inr (vR (o + 6 + 3 * K))
  | 10 => .inr (vR (o + 7 + 3 * K))
  | _ => .inl 0
/-- the object, draft and seen -/
def bx_0 (m : Nat) (F : aq_F) (o n K : Nat) : Prop := o + 8 + 3 * K ≤ m ∧ 1 ≤ n ∧ n ≤ 4 ∧ K ≤ 105 ∧ F o = (10, 11, bx_t o n K) ∧ F (o + 6 + 3 * K) = (0, 2 * n, fun _ => .inl 0) ∧ F (o + 7 + 3 * K) = (1, 2 * n, fun _ => .inl 0)
/-- partners, each row a table -/
def bx_p (F : aq_F) (o n K : Nat) (tP : Int → Int → Int) : Prop := F (o + 1) = (3, K, fun j => .inr (vR (o + 2 + j))) ∧ (∀ b, b < K → F (o + 2 + b) = (0, 2 * n, fun j => .inr (vI (tP (b : Int) (j : Int))))) ∧ ∀ b p : Int, 0 ≤ b → b < K → 0 ≤ p → p < 2 * (n : Int) → 0 ≤ tP b p ∧ tP b p < 2 * (n : Int)
/-- lengths, spellings, beneath -/
def bx_w (F : aq_F) (o n K : Nat) (tL : Int → Int) (tG tN : Int → Int → Int) : Prop := F (o + 3 + K) = (0, K, fun j => .inr (vI (tL (j : Int)))) ∧ F (o + 4 + K) = (3, K, fun j => .inr (vR (o + 5 + K + j))) ∧ (∀ b, b < K → F (o + 5 + K + b) = (0, 6, fun j => .inr (vI (tG (b : Int) (j : Int))))) ∧ F (o + 5 + 2 * K) = (3, K, fun j => .inr (vR (o + 6 + 2 * K + j))) ∧ (∀ b, b < K → F (o + 6 + 2 * K + b) = (0, 2 * n - 2, fun j => .inr (vI (tN (b : Int) (j : Int))))) ∧
  (∀ b : Int, 0 ≤ b → b < K → 0 ≤ tL b ∧ tL b ≤ 6) ∧ (∀ b i : Int, 0 ≤ b → b < K → 0 ≤ i → i < tL b → 0 ≤ tG b i ∧ tG b i < 2 * (n : Int) - 2) ∧ ∀ b k : Int, 0 ≤ b → b < K → 0 ≤ k → k < 2 * (n : Int) - 2 → 0 ≤ tN b k ∧ tN b k < 5000 ∧ tN b k % 1000 < (K : Int)
/-- rings -/
def bx_r (F : aq_F) (o K : Nat) (tR : Int → Int) : Prop := F (o + 2 + K) = (0, K, fun j => .inr (vI (tR (j : Int)))) ∧ ∀ b : Int, 0 ≤ b → b < K → 0 ≤ tR b ∧ tR b ≤ 4
theorem am_and15 (x : Int) : 0 ≤ am_and x 15 ∧ am_and x 15 < 16 := by
  unfold am_and
  have h1 : (Int32.ofInt x &&& Int32.ofInt 15).toInt = ((Int32.ofInt x).toBitVec &&& (Int32.ofInt 15).toBitVec).toInt := by
    rw [← Int32.toBitVec_and]
    rfl
  rw [h1]
  have h2 : (Int32.ofInt 15).toBitVec = 15#32 := by decide
  rw [h2]
  have h3 : ((Int32.ofInt x).toBitVec &&& 15#32).toNat ≤ 15 := by
    rw [BitVec.toNat_and]
    exact Nat.and_le_right
  rw [BitVec.toInt_eq_toNat_cond]
  split <;> omega
theorem am_rem_s {x y : Int} (h : y ≠ 0) : am_rem x y = some (x.tmod y) := by
  unfold am_rem
  rw [if_neg h]
theorem am_div_s {x y : Int} (h : y ≠ 0) : am_div x y = some (am_w (x.tdiv y)) := by
  unfold am_div
  rw [if_neg h]
theorem am_divl_s {x y : Int} (h : y ≠ 0) : am_divl x y = some (am_wl (x.tdiv y)) := by
  unfold am_divl
  rw [if_neg h]
theorem am_rem_e {x y : Int} (h : 0 ≤ x) (hy : 0 < y) : am_rem x y = some (x % y) := by
  rw [am_rem_s (by omega), Int.tmod_eq_emod_of_nonneg h]
theorem am_div_e {x y : Int} (h : 0 ≤ x) (hx : x < 2147483648) (hy : 0 < y) : am_div x y = some (x / y) := by
  rw [am_div_s (by omega), Int.tdiv_eq_ediv_of_nonneg h, am_w_id]
  have h1 : 0 ≤ x / y := Int.ediv_nonneg h (by omega)
  have h2 : x / y ≤ x := Int.ediv_le_self y h
  exact am_ri (by omega) (by omega)
end
section
/-! Boxes: methods that a public call runs. Printed by wip/p20/sx/gBX.py. -/

theorem qn_X0_across {m s : Nat} {F : aq_F} {c : aq_C} {o n K : Nat} (hB : bx_0 m F o n K) {p : Int} (h0 : 0 ≤ p) (h1 : p < 2 * (n : Int)) : am_E ac_X0_across (0, [vR o, vI p], [], aq_h m s F c) (aq_P m s F c (fun r => ∃ v, r = some (vI v) ∧ ((p < (n : Int) ∧ v = p + (n : Int)) ∨ ((n : Int) ≤ p ∧ v = p - (n : Int))))) := by
  obtain ⟨hm, hn1, hn4, hK, hFo, hFd, hFs⟩ := hB
  refine am_E.go (t2 := (1, [vR o, vI p], [vI p], aq_h m s F c)) rfl rfl ?_
  refine am_E.go (t2 := (2, [vR o, vI p], [vR o, vI p], aq_h m s F c)) rfl rfl ?_
  refine aq_gf (v := vI (n : Int)) rfl (by omega) hFo (by decide) rfl ?_
  show am_E _ (5, [vR o, vI p], [vI (n : Int), vI p], aq_h m s F c) _
  refine ae_icmp rfl (fun (q_1 : (n : Int) ≤ p) => ?_) (fun (q_1 : p < (n : Int)) => ?_)
  · refine am_E.go (t2 := (18, [vR o, vI p], [vI p], aq_h m s F c)) rfl rfl ?_
    refine am_E.go (t2 := (19, [vR o, vI p], [vR o, vI p], aq_h m s F c)) rfl rfl ?_
    refine aq_gf (v := vI (n : Int)) rfl (by omega) hFo (by decide) rfl ?_
    show am_E _ (22, [vR o, vI p], [vI (n : Int), vI p], aq_h m s F c) _
    refine ae_sub rfl (am_ri (by omega) (by omega)) ?_
    show am_E _ (23, [vR o, vI p], [vI (p - (n : Int))], aq_h m s F c) _
    refine am_E.ret rfl rfl ?_
    exact ⟨rfl, _, rfl, by omega⟩
  · refine am_E.go (t2 := (9, [vR o, vI p], [vI p], aq_h m s F c)) rfl rfl ?_
    refine am_E.go (t2 := (10, [vR o, vI p], [vR o, vI p], aq_h m s F c)) rfl rfl ?_
    refine aq_gf (v := vI (n : Int)) rfl (by omega) hFo (by decide) rfl ?_
    show am_E _ (13, [vR o, vI p], [vI (n : Int), vI p], aq_h m s F c) _
    refine ae_add rfl (am_ri (by omega) (by omega)) ?_
    show am_E _ (14, [vR o, vI p], [vI (p + (n : Int))], aq_h m s F c) _
    refine am_E.go (t2 := (23, [vR o, vI p], [vI (p + (n : Int))], aq_h m s F c)) rfl rfl ?_
    refine am_E.ret rfl rfl ?_
    exact ⟨rfl, _, rfl, by omega⟩

theorem qn_X0_placeRound {m s : Nat} {F : aq_F} {c : aq_C} {o n K : Nat} (hB : bx_0 m F o n K) {p : Int} : am_E ac_X0_placeRound (0, [vR o, vI p], [], aq_h m s F c) (aq_P m s F c aq_vi) := by
  obtain ⟨hm, hn1, hn4, hK, hFo, hFd, hFs⟩ := hB
  refine am_E.go (t2 := (1, [vR o, vI p], [vI p], aq_h m s F c)) rfl rfl ?_
  refine am_E.go (t2 := (2, [vR o, vI p], [vR o, vI p], aq_h m s F c)) rfl rfl ?_
  refine aq_gf (v := vI (n : Int)) rfl (by omega) hFo (by decide) rfl ?_
  show am_E _ (5, [vR o, vI p], [vI (n : Int), vI p], aq_h m s F c) _
  refine ae_icmp rfl (fun (q_1 : (n : Int) ≤ p) => ?_) (fun (q_1 : p < (n : Int)) => ?_)
  · refine am_E.go (t2 := (13, [vR o, vI p], [vR o], aq_h m s F c)) rfl rfl ?_
    refine aq_gf (v := vI (n : Int)) rfl (by omega) hFo (by decide) rfl ?_
    show am_E _ (16, [vR o, vI p], [vI (n : Int)], aq_h m s F c) _
    refine am_E.go (t2 := (17, [vR o, vI p], [vR o, vI (n : Int)], aq_h m s F c)) rfl rfl ?_
    refine aq_gf (v := vI (2 * (n : Int))) rfl (by omega) hFo (by decide) rfl ?_
    show am_E _ (20, [vR o, vI p], [vI (2 * (n : Int)), vI (n : Int)], aq_h m s F c) _
    refine am_E.go (t2 := (21, [vR o, vI p], [vI (am_w ((n : Int) + (2 * (n : Int))))], aq_h m s F c)) rfl rfl ?_
    refine am_E.go (t2 := (22, [vR o, vI p], [vI 1, vI (am_w ((n : Int) + (2 * (n : Int))))], aq_h m s F c)) rfl rfl ?_
    refine am_E.go (t2 := (23, [vR o, vI p], [vI (am_w ((am_w ((n : Int) + (2 * (n : Int)))) - 1))], aq_h m s F c)) rfl rfl ?_
    refine am_E.go (t2 := (24, [vR o, vI p], [vI p, vI (am_w ((am_w ((n : Int) + (2 * (n : Int)))) - 1))], aq_h m s F c)) rfl rfl ?_
    refine am_E.go (t2 := (25, [vR o, vI p], [vI (am_w ((am_w ((am_w ((n : Int) + (2 * (n : Int)))) - 1)) - p))], aq_h m s F c)) rfl rfl ?_
    refine am_E.ret rfl rfl ?_
    exact ⟨rfl, _, rfl⟩
  · refine am_E.go (t2 := (9, [vR o, vI p], [vI p], aq_h m s F c)) rfl rfl ?_
    refine am_E.go (t2 := (25, [vR o, vI p], [vI p], aq_h m s F c)) rfl rfl ?_
    refine am_E.ret rfl rfl ?_
    exact ⟨rfl, _, rfl⟩

theorem qn_X0_isBetween {m s : Nat} {F : aq_F} {c : aq_C} {o n K : Nat} (hB : bx_0 m F o n K) {p q r : Int} : am_E ac_X0_isBetween (0, [vR o, vI p, vI q, vI r, vU], [], aq_h m s F c) (aq_P m s F c aq_vb) := by
  obtain ⟨hm, hn1, hn4, hK, hFo, hFd, hFs⟩ := hB
  refine am_E.go (t2 := (1, [vR o, vI p, vI q, vI r, vU], [vR o], aq_h m s F c)) rfl rfl ?_
  refine am_E.go (t2 := (2, [vR o, vI p, vI q, vI r, vU], [vI r, vR o], aq_h m s F c)) rfl rfl ?_
  refine aq_callv (y := 2) (as2 := [vI r]) (rest := []) rfl rfl (by decide) (Nat.le_of_ble_eq_true rfl) rfl rfl (Nat.le_of_ble_eq_true rfl) (by omega) hFo rfl (Nat.le_of_ble_eq_true rfl) (qn_X0_placeRound ⟨hm, hn1, hn4, hK, hFo, hFd, hFs⟩) ?_
  rintro r5 h5 ⟨rfl, v_1, rfl⟩
  show am_E _ (5, [vR o, vI p, vI q, vI r, vU], [vI v_1], aq_h m s F c) _
  refine am_E.go (t2 := (7, [vR o, vI p, vI q, vI r, vI v_1], [], aq_h m s F c)) rfl rfl ?_
  refine am_E.go (t2 := (8, [vR o, vI p, vI q, vI r, vI v_1], [vI p], aq_h m s F c)) rfl rfl ?_
  refine am_E.go (t2 := (10, [vR o, vI p, vI q, vI r, vI v_1], [vI v_1, vI p], aq_h m s F c)) rfl rfl ?_
  refine ae_icmp rfl (fun (q_2 : v_1 ≤ p) => ?_) (fun (q_2 : p < v_1) => ?_)
  · refine am_E.go (t2 := (24, [vR o, vI p, vI q, vI r, vI v_1], [vI 0], aq_h m s F c)) rfl rfl ?_
    refine am_E.ret rfl rfl ?_
    exact ⟨rfl, _, rfl, by omega⟩
  · refine am_E.go (t2 := (15, [vR o, vI p, vI q, vI r, vI v_1], [vI v_1], aq_h m s F c)) rfl rfl ?_
    refine am_E.go (t2 := (16, [vR o, vI p, vI q, vI r, vI v_1], [vI q, vI v_1], aq_h m s F c)) rfl rfl ?_
    refine ae_icmp rfl (fun (q_3 : q ≤ v_1) => ?_) (fun (q_3 : v_1 < q) => ?_)
    · refine am_E.go (t2 := (24, [vR o, vI p, vI q, vI r, vI v_1], [vI 0], aq_h m s F c)) rfl rfl ?_
      refine am_E.ret rfl rfl ?_
      exact ⟨rfl, _, rfl, by omega⟩
    · refine am_E.go (t2 := (20, [vR o, vI p, vI q, vI r, vI v_1], [vI 1], aq_h m s F c)) rfl rfl ?_
      refine am_E.go (t2 := (24, [vR o, vI p, vI q, vI r, vI v_1], [vI 1], aq_h m s F c)) rfl rfl ?_
      refine am_E.ret rfl rfl ?_
      exact ⟨rfl, _, rfl, by omega⟩

theorem qn_isPlane_in {m s : Nat} {F : aq_F} {c : aq_C} {o n K : Nat} (hB : bx_0 m F o n K) {tP : Int → Int → Int} (hP : bx_p F o n K tP) {b : Int} (hb0 : 0 ≤ b) (hbK : b < (K : Int)) : ∀ (d : Nat) (p : Int) (v4 : Int) (v5 : Int) (r : Int) (h0 : 0 ≤ r) (h1 : r ≤ 2 * (n : Int)) (hd : 2 * (n : Int) - r < (d : Int)) (K0 : ∀ (v6 : Int), am_E ac_X0_isPlane (81, [vR o, vI b, vR (o + 2 + b.toNat), vI p, vI v4, vI v5, vI v6], [], aq_h m s F c) (aq_P m s F c aq_vb)), am_E ac_X0_isPlane (36, [vR o, vI b, vR (o + 2 + b.toNat), vI p, vI v4, vI v5, vI r], [], aq_h m s F c) (aq_P m s F c aq_vb)
  | 0, p, v4, v5, r, h0, h1, hd, K0 => by exfalso; omega
  | d + 1, p, v4, v5, r, h0, h1, hd, K0 => by
    obtain ⟨hm, hn1, hn4, hK, hFo, hFd, hFs⟩ := hB
    obtain ⟨hPg, hPr, hPt⟩ := hP
    refine am_E.go (t2 := (38, [vR o, vI b, vR (o + 2 + b.toNat), vI p, vI v4, vI v5, vI r], [vI r], aq_h m s F c)) rfl rfl ?_
    refine am_E.go (t2 := (39, [vR o, vI b, vR (o + 2 + b.toNat), vI p, vI v4, vI v5, vI r], [vR o, vI r], aq_h m s F c)) rfl rfl ?_
    refine aq_gf (v := vI (2 * (n : Int))) rfl (by omega) hFo (by decide) rfl ?_
    show am_E _ (42, [vR o, vI b, vR (o + 2 + b.toNat), vI p, vI v4, vI v5, vI r], [vI (2 * (n : Int)), vI r], aq_h m s F c) _
    refine ae_icmp rfl (fun (q_1 : (2 * (n : Int)) ≤ r) => ?_) (fun (q_1 : r < (2 * (n : Int))) => ?_)
    · exact K0 r
    · refine am_E.go (t2 := (46, [vR o, vI b, vR (o + 2 + b.toNat), vI p, vI v4, vI v5, vI r], [vR o], aq_h m s F c)) rfl rfl ?_
      refine am_E.go (t2 := (48, [vR o, vI b, vR (o + 2 + b.toNat), vI p, vI v4, vI v5, vI r], [vI v4, vR o], aq_h m s F c)) rfl rfl ?_
      refine am_E.go (t2 := (50, [vR o, vI b, vR (o + 2 + b.toNat), vI p, vI v4, vI v5, vI r], [vI v5, vI v4, vR o], aq_h m s F c)) rfl rfl ?_
      refine am_E.go (t2 := (52, [vR o, vI b, vR (o + 2 + b.toNat), vI p, vI v4, vI v5, vI r], [vI r, vI v5, vI v4, vR o], aq_h m s F c)) rfl rfl ?_
      refine aq_callv (y := 4) (as2 := [vI v4, vI v5, vI r]) (rest := []) rfl rfl (by decide) (Nat.le_of_ble_eq_true rfl) rfl rfl (Nat.le_of_ble_eq_true rfl) (by omega) hFo rfl (Nat.le_of_ble_eq_true rfl) (qn_X0_isBetween ⟨hm, hn1, hn4, hK, hFo, hFd, hFs⟩) ?_
      rintro r5 h5 ⟨rfl, v_2, rfl, hv_2⟩
      show am_E _ (55, [vR o, vI b, vR (o + 2 + b.toNat), vI p, vI v4, vI v5, vI r], [vI v_2], aq_h m s F c) _
      refine ae_if0 rfl (fun (q_3 : v_2 = 0) => ?_) (fun (q_3 : v_2 ≠ 0) => ?_)
      · refine ae_iinc rfl rfl (am_ri (by omega) (by omega)) ?_
        show am_E _ (78, [vR o, vI b, vR (o + 2 + b.toNat), vI p, vI v4, vI v5, vI (r + 1)], [], aq_h m s F c) _
        refine am_E.go (t2 := (36, [vR o, vI b, vR (o + 2 + b.toNat), vI p, vI v4, vI v5, vI (r + 1)], [], aq_h m s F c)) rfl rfl ?_
        exact qn_isPlane_in ⟨hm, hn1, hn4, hK, hFo, hFd, hFs⟩ ⟨hPg, hPr, hPt⟩ hb0 hbK d p v4 v5 (r + 1) (by omega) (by omega) (by omega) K0
      · refine am_E.go (t2 := (59, [vR o, vI b, vR (o + 2 + b.toNat), vI p, vI v4, vI v5, vI r], [vR o], aq_h m s F c)) rfl rfl ?_
        refine am_E.go (t2 := (61, [vR o, vI b, vR (o + 2 + b.toNat), vI p, vI v4, vI v5, vI r], [vI v4, vR o], aq_h m s F c)) rfl rfl ?_
        refine am_E.go (t2 := (63, [vR o, vI b, vR (o + 2 + b.toNat), vI p, vI v4, vI v5, vI r], [vI v5, vI v4, vR o], aq_h m s F c)) rfl rfl ?_
        refine am_E.go (t2 := (64, [vR o, vI b, vR (o + 2 + b.toNat), vI p, vI v4, vI v5, vI r], [vR (o + 2 + b.toNat), vI v5, vI v4, vR o], aq_h m s F c)) rfl rfl ?_
        refine am_E.go (t2 := (66, [vR o, vI b, vR (o + 2 + b.toNat), vI p, vI v4, vI v5, vI r], [vI r, vR (o + 2 + b.toNat), vI v5, vI v4, vR o], aq_h m s F c)) rfl rfl ?_
        refine aq_alt (ok := fun k => k == 0) rfl rfl (by omega) (hPr _ (by omega)) rfl (by omega) (by omega) ?_
        show am_E _ (67, [vR o, vI b, vR (o + 2 + b.toNat), vI p, vI v4, vI v5, vI r], [vI (tP ((b.toNat : Nat) : Int) r), vI v5, vI v4, vR o], aq_h m s F c) _
        have f_4 := hPt ((b.toNat : Nat) : Int) r (by omega) (by omega) (by omega) (by omega)
        refine aq_callv (y := 4) (as2 := [vI v4, vI v5, vI (tP ((b.toNat : Nat) : Int) r)]) (rest := []) rfl rfl (by decide) (Nat.le_of_ble_eq_true rfl) rfl rfl (Nat.le_of_ble_eq_true rfl) (by omega) hFo rfl (Nat.le_of_ble_eq_true rfl) (qn_X0_isBetween ⟨hm, hn1, hn4, hK, hFo, hFd, hFs⟩) ?_
        rintro r5 h5 ⟨rfl, v_5, rfl, hv_5⟩
        show am_E _ (70, [vR o, vI b, vR (o + 2 + b.toNat), vI p, vI v4, vI v5, vI r], [vI v_5], aq_h m s F c) _
        refine ae_if0 rfl (fun (q_6 : v_5 ≠ 0) => ?_) (fun (q_6 : v_5 = 0) => ?_)
        · refine ae_iinc rfl rfl (am_ri (by omega) (by omega)) ?_
          show am_E _ (78, [vR o, vI b, vR (o + 2 + b.toNat), vI p, vI v4, vI v5, vI (r + 1)], [], aq_h m s F c) _
          refine am_E.go (t2 := (36, [vR o, vI b, vR (o + 2 + b.toNat), vI p, vI v4, vI v5, vI (r + 1)], [], aq_h m s F c)) rfl rfl ?_
          exact qn_isPlane_in ⟨hm, hn1, hn4, hK, hFo, hFd, hFs⟩ ⟨hPg, hPr, hPt⟩ hb0 hbK d p v4 v5 (r + 1) (by omega) (by omega) (by omega) K0
        · refine am_E.go (t2 := (74, [vR o, vI b, vR (o + 2 + b.toNat), vI p, vI v4, vI v5, vI r], [vI 0], aq_h m s F c)) rfl rfl ?_
          refine am_E.ret rfl rfl ?_
          exact ⟨rfl, _, rfl, by omega⟩

theorem qn_isPlane_out {m s : Nat} {F : aq_F} {c : aq_C} {o n K : Nat} (hB : bx_0 m F o n K) {tP : Int → Int → Int} (hP : bx_p F o n K tP) {b : Int} (hb0 : 0 ≤ b) (hbK : b < (K : Int)) : ∀ (d : Nat) (p : Int) (v4 : am_V) (v5 : am_V) (v6 : am_V) (h0 : 0 ≤ p) (h1 : p ≤ 2 * (n : Int)) (hd : 2 * (n : Int) - p < (d : Int)), am_E ac_X0_isPlane (9, [vR o, vI b, vR (o + 2 + b.toNat), vI p, v4, v5, v6], [], aq_h m s F c) (aq_P m s F c aq_vb)
  | 0, p, v4, v5, v6, h0, h1, hd => by exfalso; omega
  | d + 1, p, v4, v5, v6, h0, h1, hd => by
    obtain ⟨hm, hn1, hn4, hK, hFo, hFd, hFs⟩ := hB
    obtain ⟨hPg, hPr, hPt⟩ := hP
    refine am_E.go (t2 := (10, [vR o, vI b, vR (o + 2 + b.toNat), vI p, v4, v5, v6], [vI p], aq_h m s F c)) rfl rfl ?_
    refine am_E.go (t2 := (11, [vR o, vI b, vR (o + 2 + b.toNat), vI p, v4, v5, v6], [vR o, vI p], aq_h m s F c)) rfl rfl ?_
    refine aq_gf (v := vI (2 * (n : Int))) rfl (by omega) hFo (by decide) rfl ?_
    show am_E _ (14, [vR o, vI b, vR (o + 2 + b.toNat), vI p, v4, v5, v6], [vI (2 * (n : Int)), vI p], aq_h m s F c) _
    refine ae_icmp rfl (fun (q_1 : (2 * (n : Int)) ≤ p) => ?_) (fun (q_1 : p < (2 * (n : Int))) => ?_)
    · refine am_E.go (t2 := (88, [vR o, vI b, vR (o + 2 + b.toNat), vI p, v4, v5, v6], [vI 1], aq_h m s F c)) rfl rfl ?_
      refine am_E.ret rfl rfl ?_
      exact ⟨rfl, _, rfl, by omega⟩
    · refine am_E.go (t2 := (18, [vR o, vI b, vR (o + 2 + b.toNat), vI p, v4, v5, v6], [vR o], aq_h m s F c)) rfl rfl ?_
      refine am_E.go (t2 := (19, [vR o, vI b, vR (o + 2 + b.toNat), vI p, v4, v5, v6], [vI p, vR o], aq_h m s F c)) rfl rfl ?_
      refine aq_callv (y := 2) (as2 := [vI p]) (rest := []) rfl rfl (by decide) (Nat.le_of_ble_eq_true rfl) rfl rfl (Nat.le_of_ble_eq_true rfl) (by omega) hFo rfl (Nat.le_of_ble_eq_true rfl) (qn_X0_placeRound ⟨hm, hn1, hn4, hK, hFo, hFd, hFs⟩) ?_
      rintro r5 h5 ⟨rfl, v_2, rfl⟩
      show am_E _ (22, [vR o, vI b, vR (o + 2 + b.toNat), vI p, v4, v5, v6], [vI v_2], aq_h m s F c) _
      refine am_E.go (t2 := (24, [vR o, vI b, vR (o + 2 + b.toNat), vI p, vI v_2, v5, v6], [], aq_h m s F c)) rfl rfl ?_
      refine am_E.go (t2 := (25, [vR o, vI b, vR (o + 2 + b.toNat), vI p, vI v_2, v5, v6], [vR o], aq_h m s F c)) rfl rfl ?_
      refine am_E.go (t2 := (26, [vR o, vI b, vR (o + 2 + b.toNat), vI p, vI v_2, v5, v6], [vR (o + 2 + b.toNat), vR o], aq_h m s F c)) rfl rfl ?_
      refine am_E.go (t2 := (27, [vR o, vI b, vR (o + 2 + b.toNat), vI p, vI v_2, v5, v6], [vI p, vR (o + 2 + b.toNat), vR o], aq_h m s F c)) rfl rfl ?_
      refine aq_alt (ok := fun k => k == 0) rfl rfl (by omega) (hPr _ (by omega)) rfl (by omega) (by omega) ?_
      show am_E _ (28, [vR o, vI b, vR (o + 2 + b.toNat), vI p, vI v_2, v5, v6], [vI (tP ((b.toNat : Nat) : Int) p), vR o], aq_h m s F c) _
      have f_3 := hPt ((b.toNat : Nat) : Int) p (by omega) (by omega) (by omega) (by omega)
      refine aq_callv (y := 2) (as2 := [vI (tP ((b.toNat : Nat) : Int) p)]) (rest := []) rfl rfl (by decide) (Nat.le_of_ble_eq_true rfl) rfl rfl (Nat.le_of_ble_eq_true rfl) (by omega) hFo rfl (Nat.le_of_ble_eq_true rfl) (qn_X0_placeRound ⟨hm, hn1, hn4, hK, hFo, hFd, hFs⟩) ?_
      rintro r5 h5 ⟨rfl, v_4, rfl⟩
      show am_E _ (31, [vR o, vI b, vR (o + 2 + b.toNat), vI p, vI v_2, v5, v6], [vI v_4], aq_h m s F c) _
      refine am_E.go (t2 := (33, [vR o, vI b, vR (o + 2 + b.toNat), vI p, vI v_2, vI v_4, v6], [], aq_h m s F c)) rfl rfl ?_
      refine am_E.go (t2 := (34, [vR o, vI b, vR (o + 2 + b.toNat), vI p, vI v_2, vI v_4, v6], [vI 0], aq_h m s F c)) rfl rfl ?_
      refine am_E.go (t2 := (36, [vR o, vI b, vR (o + 2 + b.toNat), vI p, vI v_2, vI v_4, vI 0], [], aq_h m s F c)) rfl rfl ?_
      refine qn_isPlane_in ⟨hm, hn1, hn4, hK, hFo, hFd, hFs⟩ ⟨hPg, hPr, hPt⟩ hb0 hbK 9 p v_2 v_4 0 (by omega) (by omega) (by omega) ?_
      · intro v6_36
        refine ae_iinc rfl rfl (am_ri (by omega) (by omega)) ?_
        show am_E _ (84, [vR o, vI b, vR (o + 2 + b.toNat), vI (p + 1), vI v_2, vI v_4, vI v6_36], [], aq_h m s F c) _
        refine am_E.go (t2 := (9, [vR o, vI b, vR (o + 2 + b.toNat), vI (p + 1), vI v_2, vI v_4, vI v6_36], [], aq_h m s F c)) rfl rfl ?_
        exact qn_isPlane_out ⟨hm, hn1, hn4, hK, hFo, hFd, hFs⟩ ⟨hPg, hPr, hPt⟩ hb0 hbK d (p + 1) (vI v_2) (vI v_4) (vI v6_36) (by omega) (by omega) (by omega)

theorem qn_X0_isPlane {m s : Nat} {F : aq_F} {c : aq_C} {o n K : Nat} (hB : bx_0 m F o n K) {tP : Int → Int → Int} (hP : bx_p F o n K tP) {b : Int} (hb0 : 0 ≤ b) (hbK : b < (K : Int)) : am_E ac_X0_isPlane (0, [vR o, vI b, vU, vU, vU, vU, vU], [], aq_h m s F c) (aq_P m s F c aq_vb) := by
  obtain ⟨hm, hn1, hn4, hK, hFo, hFd, hFs⟩ := hB
  obtain ⟨hPg, hPr, hPt⟩ := hP
  refine am_E.go (t2 := (1, [vR o, vI b, vU, vU, vU, vU, vU], [vR o], aq_h m s F c)) rfl rfl ?_
  refine aq_gf (v := vR (o + 1)) rfl (by omega) hFo (by decide) rfl ?_
  show am_E _ (4, [vR o, vI b, vU, vU, vU, vU, vU], [vR (o + 1)], aq_h m s F c) _
  refine am_E.go (t2 := (5, [vR o, vI b, vU, vU, vU, vU, vU], [vI b, vR (o + 1)], aq_h m s F c)) rfl rfl ?_
  refine aq_al (ok := fun k => decide (3 ≤ k) && decide (k < 7)) (v := vR (o + 2 + b.toNat)) rfl rfl (by omega) hPg rfl (by omega) (by omega) rfl ?_
  show am_E _ (6, [vR o, vI b, vU, vU, vU, vU, vU], [vR (o + 2 + b.toNat)], aq_h m s F c) _
  refine am_E.go (t2 := (7, [vR o, vI b, vR (o + 2 + b.toNat), vU, vU, vU, vU], [], aq_h m s F c)) rfl rfl ?_
  refine am_E.go (t2 := (8, [vR o, vI b, vR (o + 2 + b.toNat), vU, vU, vU, vU], [vI 0], aq_h m s F c)) rfl rfl ?_
  refine am_E.go (t2 := (9, [vR o, vI b, vR (o + 2 + b.toNat), vI 0, vU, vU, vU], [], aq_h m s F c)) rfl rfl ?_
  exact qn_isPlane_out ⟨hm, hn1, hn4, hK, hFo, hFd, hFs⟩ ⟨hPg, hPr, hPt⟩ hb0 hbK 9 0 (vU) (vU) (vU) (by omega) (by omega) (by omega)

theorem qn_countPlane_l {m s : Nat} {F : aq_F} {c : aq_C} {o n K : Nat} (hB : bx_0 m F o n K) {tP : Int → Int → Int} (hP : bx_p F o n K tP) : ∀ (d : Nat) (x : Int) (b : Int) (h0 : 0 ≤ b) (h1 : b ≤ (K : Int)) (hd : (K : Int) - b < (d : Int)), am_E ac_X0_countPlane (4, [vR o, vI x, vI b], [], aq_h m s F c) (aq_P m s F c aq_vi)
  | 0, x, b, h0, h1, hd => by exfalso; omega
  | d + 1, x, b, h0, h1, hd => by
    obtain ⟨hm, hn1, hn4, hK, hFo, hFd, hFs⟩ := hB
    obtain ⟨hPg, hPr, hPt⟩ := hP
    refine am_E.go (t2 := (5, [vR o, vI x, vI b], [vI b], aq_h m s F c)) rfl rfl ?_
    refine am_E.go (t2 := (6, [vR o, vI x, vI b], [vR o, vI b], aq_h m s F c)) rfl rfl ?_
    refine aq_gf (v := vI (K : Int)) rfl (by omega) hFo (by decide) rfl ?_
    show am_E _ (9, [vR o, vI x, vI b], [vI (K : Int), vI b], aq_h m s F c) _
    refine ae_icmp rfl (fun (q_1 : (K : Int) ≤ b) => ?_) (fun (q_1 : b < (K : Int)) => ?_)
    · refine am_E.go (t2 := (35, [vR o, vI x, vI b], [vI x], aq_h m s F c)) rfl rfl ?_
      refine am_E.ret rfl rfl ?_
      exact ⟨rfl, _, rfl⟩
    · refine am_E.go (t2 := (13, [vR o, vI x, vI b], [vI x], aq_h m s F c)) rfl rfl ?_
      refine am_E.go (t2 := (14, [vR o, vI x, vI b], [vR o, vI x], aq_h m s F c)) rfl rfl ?_
      refine am_E.go (t2 := (15, [vR o, vI x, vI b], [vI b, vR o, vI x], aq_h m s F c)) rfl rfl ?_
      refine aq_callv (y := 2) (as2 := [vI b]) (rest := [vI x]) rfl rfl (by decide) (Nat.le_of_ble_eq_true rfl) rfl rfl (Nat.le_of_ble_eq_true rfl) (by omega) hFo rfl (Nat.le_of_ble_eq_true rfl) (qn_X0_isPlane ⟨hm, hn1, hn4, hK, hFo, hFd, hFs⟩ ⟨hPg, hPr, hPt⟩ (by omega) (by omega)) ?_
      rintro r5 h5 ⟨rfl, v_2, rfl, hv_2⟩
      show am_E _ (18, [vR o, vI x, vI b], [vI v_2, vI x], aq_h m s F c) _
      refine ae_if0 rfl (fun (q_3 : v_2 = 0) => ?_) (fun (q_3 : v_2 ≠ 0) => ?_)
      · refine am_E.go (t2 := (26, [vR o, vI x, vI b], [vI 0, vI x], aq_h m s F c)) rfl rfl ?_
        refine am_E.go (t2 := (27, [vR o, vI x, vI b], [vI (am_w (x + 0))], aq_h m s F c)) rfl rfl ?_
        refine am_E.go (t2 := (28, [vR o, vI (am_w (x + 0)), vI b], [], aq_h m s F c)) rfl rfl ?_
        refine ae_iinc rfl rfl (am_ri (by omega) (by omega)) ?_
        show am_E _ (31, [vR o, vI (am_w (x + 0)), vI (b + 1)], [], aq_h m s F c) _
        refine am_E.go (t2 := (4, [vR o, vI (am_w (x + 0)), vI (b + 1)], [], aq_h m s F c)) rfl rfl ?_
        exact qn_countPlane_l ⟨hm, hn1, hn4, hK, hFo, hFd, hFs⟩ ⟨hPg, hPr, hPt⟩ d (am_w (x + 0)) (b + 1) (by omega) (by omega) (by omega)
      · refine am_E.go (t2 := (22, [vR o, vI x, vI b], [vI 1, vI x], aq_h m s F c)) rfl rfl ?_
        refine am_E.go (t2 := (26, [vR o, vI x, vI b], [vI 1, vI x], aq_h m s F c)) rfl rfl ?_
        refine am_E.go (t2 := (27, [vR o, vI x, vI b], [vI (am_w (x + 1))], aq_h m s F c)) rfl rfl ?_
        refine am_E.go (t2 := (28, [vR o, vI (am_w (x + 1)), vI b], [], aq_h m s F c)) rfl rfl ?_
        refine ae_iinc rfl rfl (am_ri (by omega) (by omega)) ?_
        show am_E _ (31, [vR o, vI (am_w (x + 1)), vI (b + 1)], [], aq_h m s F c) _
        refine am_E.go (t2 := (4, [vR o, vI (am_w (x + 1)), vI (b + 1)], [], aq_h m s F c)) rfl rfl ?_
        exact qn_countPlane_l ⟨hm, hn1, hn4, hK, hFo, hFd, hFs⟩ ⟨hPg, hPr, hPt⟩ d (am_w (x + 1)) (b + 1) (by omega) (by omega) (by omega)

theorem qn_X0_countPlane {m s : Nat} {F : aq_F} {c : aq_C} {o n K : Nat} (hB : bx_0 m F o n K) {tP : Int → Int → Int} (hP : bx_p F o n K tP) : am_E ac_X0_countPlane (0, [vR o, vU, vU], [], aq_h m s F c) (aq_P m s F c aq_vi) := by
  obtain ⟨hm, hn1, hn4, hK, hFo, hFd, hFs⟩ := hB
  obtain ⟨hPg, hPr, hPt⟩ := hP
  refine am_E.go (t2 := (1, [vR o, vU, vU], [vI 0], aq_h m s F c)) rfl rfl ?_
  refine am_E.go (t2 := (2, [vR o, vI 0, vU], [], aq_h m s F c)) rfl rfl ?_
  refine am_E.go (t2 := (3, [vR o, vI 0, vU], [vI 0], aq_h m s F c)) rfl rfl ?_
  refine am_E.go (t2 := (4, [vR o, vI 0, vI 0], [], aq_h m s F c)) rfl rfl ?_
  exact qn_countPlane_l ⟨hm, hn1, hn4, hK, hFo, hFd, hFs⟩ ⟨hPg, hPr, hPt⟩ 106 0 0 (by omega) (by omega) (by omega)

theorem qn_countThrough_l {m s : Nat} {F : aq_F} {c : aq_C} {o n K : Nat} (hB : bx_0 m F o n K) {tP : Int → Int → Int} (hP : bx_p F o n K tP) {b : Int} (hb0 : 0 ≤ b) (hbK : b < (K : Int)) : ∀ (d : Nat) (x : Int) (p : Int) (h0 : 0 ≤ p) (h1 : p ≤ (n : Int)) (hd : (n : Int) - p < (d : Int)), am_E ac_X0_countThrough (4, [vR o, vI b, vI x, vI p], [], aq_h m s F c) (aq_P m s F c aq_vi)
  | 0, x, p, h0, h1, hd => by exfalso; omega
  | d + 1, x, p, h0, h1, hd => by
    obtain ⟨hm, hn1, hn4, hK, hFo, hFd, hFs⟩ := hB
    obtain ⟨hPg, hPr, hPt⟩ := hP
    refine am_E.go (t2 := (5, [vR o, vI b, vI x, vI p], [vI p], aq_h m s F c)) rfl rfl ?_
    refine am_E.go (t2 := (6, [vR o, vI b, vI x, vI p], [vR o, vI p], aq_h m s F c)) rfl rfl ?_
    refine aq_gf (v := vI (n : Int)) rfl (by omega) hFo (by decide) rfl ?_
    show am_E _ (9, [vR o, vI b, vI x, vI p], [vI (n : Int), vI p], aq_h m s F c) _
    refine ae_icmp rfl (fun (q_1 : (n : Int) ≤ p) => ?_) (fun (q_1 : p < (n : Int)) => ?_)
    · refine am_E.go (t2 := (42, [vR o, vI b, vI x, vI p], [vI x], aq_h m s F c)) rfl rfl ?_
      refine am_E.ret rfl rfl ?_
      exact ⟨rfl, _, rfl⟩
    · refine am_E.go (t2 := (13, [vR o, vI b, vI x, vI p], [vI x], aq_h m s F c)) rfl rfl ?_
      refine am_E.go (t2 := (14, [vR o, vI b, vI x, vI p], [vR o, vI x], aq_h m s F c)) rfl rfl ?_
      refine aq_gf (v := vR (o + 1)) rfl (by omega) hFo (by decide) rfl ?_
      show am_E _ (17, [vR o, vI b, vI x, vI p], [vR (o + 1), vI x], aq_h m s F c) _
      refine am_E.go (t2 := (18, [vR o, vI b, vI x, vI p], [vI b, vR (o + 1), vI x], aq_h m s F c)) rfl rfl ?_
      refine aq_al (ok := fun k => decide (3 ≤ k) && decide (k < 7)) (v := vR (o + 2 + b.toNat)) rfl rfl (by omega) hPg rfl (by omega) (by omega) rfl ?_
      show am_E _ (19, [vR o, vI b, vI x, vI p], [vR (o + 2 + b.toNat), vI x], aq_h m s F c) _
      refine am_E.go (t2 := (20, [vR o, vI b, vI x, vI p], [vI p, vR (o + 2 + b.toNat), vI x], aq_h m s F c)) rfl rfl ?_
      refine aq_alt (ok := fun k => k == 0) rfl rfl (by omega) (hPr _ (by omega)) rfl (by omega) (by omega) ?_
      show am_E _ (21, [vR o, vI b, vI x, vI p], [vI (tP ((b.toNat : Nat) : Int) p), vI x], aq_h m s F c) _
      have f_2 := hPt ((b.toNat : Nat) : Int) p (by omega) (by omega) (by omega) (by omega)
      refine am_E.go (t2 := (22, [vR o, vI b, vI x, vI p], [vR o, vI (tP ((b.toNat : Nat) : Int) p), vI x], aq_h m s F c)) rfl rfl ?_
      refine aq_gf (v := vI (n : Int)) rfl (by omega) hFo (by decide) rfl ?_
      show am_E _ (25, [vR o, vI b, vI x, vI p], [vI (n : Int), vI (tP ((b.toNat : Nat) : Int) p), vI x], aq_h m s F c) _
      refine ae_icmp rfl (fun (q_3 : (tP ((b.toNat : Nat) : Int) p) < (n : Int)) => ?_) (fun (q_3 : (n : Int) ≤ (tP ((b.toNat : Nat) : Int) p)) => ?_)
      · refine am_E.go (t2 := (33, [vR o, vI b, vI x, vI p], [vI 0, vI x], aq_h m s F c)) rfl rfl ?_
        refine am_E.go (t2 := (34, [vR o, vI b, vI x, vI p], [vI (am_w (x + 0))], aq_h m s F c)) rfl rfl ?_
        refine am_E.go (t2 := (35, [vR o, vI b, vI (am_w (x + 0)), vI p], [], aq_h m s F c)) rfl rfl ?_
        refine ae_iinc rfl rfl (am_ri (by omega) (by omega)) ?_
        show am_E _ (38, [vR o, vI b, vI (am_w (x + 0)), vI (p + 1)], [], aq_h m s F c) _
        refine am_E.go (t2 := (4, [vR o, vI b, vI (am_w (x + 0)), vI (p + 1)], [], aq_h m s F c)) rfl rfl ?_
        exact qn_countThrough_l ⟨hm, hn1, hn4, hK, hFo, hFd, hFs⟩ ⟨hPg, hPr, hPt⟩ hb0 hbK d (am_w (x + 0)) (p + 1) (by omega) (by omega) (by omega)
      · refine am_E.go (t2 := (29, [vR o, vI b, vI x, vI p], [vI 1, vI x], aq_h m s F c)) rfl rfl ?_
        refine am_E.go (t2 := (33, [vR o, vI b, vI x, vI p], [vI 1, vI x], aq_h m s F c)) rfl rfl ?_
        refine am_E.go (t2 := (34, [vR o, vI b, vI x, vI p], [vI (am_w (x + 1))], aq_h m s F c)) rfl rfl ?_
        refine am_E.go (t2 := (35, [vR o, vI b, vI (am_w (x + 1)), vI p], [], aq_h m s F c)) rfl rfl ?_
        refine ae_iinc rfl rfl (am_ri (by omega) (by omega)) ?_
        show am_E _ (38, [vR o, vI b, vI (am_w (x + 1)), vI (p + 1)], [], aq_h m s F c) _
        refine am_E.go (t2 := (4, [vR o, vI b, vI (am_w (x + 1)), vI (p + 1)], [], aq_h m s F c)) rfl rfl ?_
        exact qn_countThrough_l ⟨hm, hn1, hn4, hK, hFo, hFd, hFs⟩ ⟨hPg, hPr, hPt⟩ hb0 hbK d (am_w (x + 1)) (p + 1) (by omega) (by omega) (by omega)

theorem qn_X0_countThrough {m s : Nat} {F : aq_F} {c : aq_C} {o n K : Nat} (hB : bx_0 m F o n K) {tP : Int → Int → Int} (hP : bx_p F o n K tP) {b : Int} (hb0 : 0 ≤ b) (hbK : b < (K : Int)) : am_E ac_X0_countThrough (0, [vR o, vI b, vU, vU], [], aq_h m s F c) (aq_P m s F c aq_vi) := by
  obtain ⟨hm, hn1, hn4, hK, hFo, hFd, hFs⟩ := hB
  obtain ⟨hPg, hPr, hPt⟩ := hP
  refine am_E.go (t2 := (1, [vR o, vI b, vU, vU], [vI 0], aq_h m s F c)) rfl rfl ?_
  refine am_E.go (t2 := (2, [vR o, vI b, vI 0, vU], [], aq_h m s F c)) rfl rfl ?_
  refine am_E.go (t2 := (3, [vR o, vI b, vI 0, vU], [vI 0], aq_h m s F c)) rfl rfl ?_
  refine am_E.go (t2 := (4, [vR o, vI b, vI 0, vI 0], [], aq_h m s F c)) rfl rfl ?_
  exact qn_countThrough_l ⟨hm, hn1, hn4, hK, hFo, hFd, hFs⟩ ⟨hPg, hPr, hPt⟩ hb0 hbK 9 0 0 (by omega) (by omega) (by omega)

/-- numberOf: free partners passed over; the number -/
def nu_p (f : Int → Int) (p : Int) : Nat → Int → Int → Int
  | 0, _, a => a
  | d + 1, q, a => if q < f p then nu_p f p d (q + 1) (am_w (a + if p < f q then 1 else 0)) else a
def nu_o (f : Int → Int) (N : Int) : Nat → Int → Int → Int → Int
  | 0, _, x, _ => x
  | d + 1, p, x, ch => if p < N then (if p < f p then nu_o f N d (p + 1) (am_w (am_w (x * ch) + nu_p f p 9 (p + 1) 0)) (am_w (ch + -2)) else nu_o f N d (p + 1) x ch) else x

theorem qn_numberOf_in {m s : Nat} {F : aq_F} {c : aq_C} {o n K : Nat} (hB : bx_0 m F o n K) (hr : aq_rg (o + 6 + 3 * K) (2 * (n : Int)) 0 (2 * (n : Int)) c) {T : Int} {T2 : Int} : ∀ (d : Nat) (x : Int) (ch : Int) (p : Int) (a : Int) (q : Int) (h0 : 0 ≤ p) (h1 : p < 2 * (n : Int)) (h2 : 0 ≤ q) (ha : nu_p (c (o + 6 + 3 * K)) p d q a = T2) (hd : max 0 (2 * (n : Int) - q) < (d : Int)) (K0 : ∀ (a2 : Int) (q2 : Int) (ht : a2 = T2), am_E ac_X0_numberOf (73, [vR o, vR (o + 6 + 3 * K), vI x, vI ch, vI p, vI a2, vI q2], [], aq_h m s F c) (aq_P m s F c (fun r => r = some (vI T)))), am_E ac_X0_numberOf (39, [vR o, vR (o + 6 + 3 * K), vI x, vI ch, vI p, vI a, vI q], [], aq_h m s F c) (aq_P m s F c (fun r => r = some (vI T)))
  | 0, x, ch, p, a, q, h0, h1, h2, ha, hd, K0 => by exfalso; omega
  | d + 1, x, ch, p, a, q, h0, h1, h2, ha, hd, K0 => by
    obtain ⟨hm, hn1, hn4, hK, hFo, hFd, hFs⟩ := hB
    refine am_E.go (t2 := (41, [vR o, vR (o + 6 + 3 * K), vI x, vI ch, vI p, vI a, vI q], [vI q], aq_h m s F c)) rfl rfl ?_
    refine am_E.go (t2 := (42, [vR o, vR (o + 6 + 3 * K), vI x, vI ch, vI p, vI a, vI q], [vR (o + 6 + 3 * K), vI q], aq_h m s F c)) rfl rfl ?_
    refine am_E.go (t2 := (44, [vR o, vR (o + 6 + 3 * K), vI x, vI ch, vI p, vI a, vI q], [vI p, vR (o + 6 + 3 * K), vI q], aq_h m s F c)) rfl rfl ?_
    refine aq_al (ok := fun k => k == 0) (v := vI (c (o + 6 + 3 * K) p)) rfl rfl (by omega) hFd rfl (by omega) (by omega) rfl ?_
    show am_E _ (45, [vR o, vR (o + 6 + 3 * K), vI x, vI ch, vI p, vI a, vI q], [vI (c (o + 6 + 3 * K) p), vI q], aq_h m s F c) _
    have f_1 := hr p (by omega) (by omega)
    refine ae_icmp rfl (fun (q_2 : (c (o + 6 + 3 * K) p) ≤ q) => ?_) (fun (q_2 : q < (c (o + 6 + 3 * K) p)) => ?_)
    · exact K0 a q (by rw [← ha, nu_p, if_neg (by omega)])
    · refine am_E.go (t2 := (50, [vR o, vR (o + 6 + 3 * K), vI x, vI ch, vI p, vI a, vI q], [vI a], aq_h m s F c)) rfl rfl ?_
      refine am_E.go (t2 := (51, [vR o, vR (o + 6 + 3 * K), vI x, vI ch, vI p, vI a, vI q], [vR (o + 6 + 3 * K), vI a], aq_h m s F c)) rfl rfl ?_
      refine am_E.go (t2 := (53, [vR o, vR (o + 6 + 3 * K), vI x, vI ch, vI p, vI a, vI q], [vI q, vR (o + 6 + 3 * K), vI a], aq_h m s F c)) rfl rfl ?_
      refine aq_al (ok := fun k => k == 0) (v := vI (c (o + 6 + 3 * K) q)) rfl rfl (by omega) hFd rfl (by omega) (by omega) rfl ?_
      show am_E _ (54, [vR o, vR (o + 6 + 3 * K), vI x, vI ch, vI p, vI a, vI q], [vI (c (o + 6 + 3 * K) q), vI a], aq_h m s F c) _
      have f_3 := hr q (by omega) (by omega)
      refine am_E.go (t2 := (56, [vR o, vR (o + 6 + 3 * K), vI x, vI ch, vI p, vI a, vI q], [vI p, vI (c (o + 6 + 3 * K) q), vI a], aq_h m s F c)) rfl rfl ?_
      refine ae_icmp rfl (fun (q_4 : (c (o + 6 + 3 * K) q) ≤ p) => ?_) (fun (q_4 : p < (c (o + 6 + 3 * K) q)) => ?_)
      · refine am_E.go (t2 := (64, [vR o, vR (o + 6 + 3 * K), vI x, vI ch, vI p, vI a, vI q], [vI 0, vI a], aq_h m s F c)) rfl rfl ?_
        refine am_E.go (t2 := (65, [vR o, vR (o + 6 + 3 * K), vI x, vI ch, vI p, vI a, vI q], [vI (am_w (a + 0))], aq_h m s F c)) rfl rfl ?_
        refine am_E.go (t2 := (67, [vR o, vR (o + 6 + 3 * K), vI x, vI ch, vI p, vI (am_w (a + 0)), vI q], [], aq_h m s F c)) rfl rfl ?_
        refine ae_iinc rfl rfl (am_ri (by omega) (by omega)) ?_
        show am_E _ (70, [vR o, vR (o + 6 + 3 * K), vI x, vI ch, vI p, vI (am_w (a + 0)), vI (q + 1)], [], aq_h m s F c) _
        refine am_E.go (t2 := (39, [vR o, vR (o + 6 + 3 * K), vI x, vI ch, vI p, vI (am_w (a + 0)), vI (q + 1)], [], aq_h m s F c)) rfl rfl ?_
        exact qn_numberOf_in ⟨hm, hn1, hn4, hK, hFo, hFd, hFs⟩ hr d x ch p (am_w (a + 0)) (q + 1) (by omega) (by omega) (by omega) (by rw [← ha, nu_p, if_pos (by omega)]; first | rw [if_pos (by omega)] | rw [if_neg (by omega)]) (by omega) K0
      · refine am_E.go (t2 := (60, [vR o, vR (o + 6 + 3 * K), vI x, vI ch, vI p, vI a, vI q], [vI 1, vI a], aq_h m s F c)) rfl rfl ?_
        refine am_E.go (t2 := (64, [vR o, vR (o + 6 + 3 * K), vI x, vI ch, vI p, vI a, vI q], [vI 1, vI a], aq_h m s F c)) rfl rfl ?_
        refine am_E.go (t2 := (65, [vR o, vR (o + 6 + 3 * K), vI x, vI ch, vI p, vI a, vI q], [vI (am_w (a + 1))], aq_h m s F c)) rfl rfl ?_
        refine am_E.go (t2 := (67, [vR o, vR (o + 6 + 3 * K), vI x, vI ch, vI p, vI (am_w (a + 1)), vI q], [], aq_h m s F c)) rfl rfl ?_
        refine ae_iinc rfl rfl (am_ri (by omega) (by omega)) ?_
        show am_E _ (70, [vR o, vR (o + 6 + 3 * K), vI x, vI ch, vI p, vI (am_w (a + 1)), vI (q + 1)], [], aq_h m s F c) _
        refine am_E.go (t2 := (39, [vR o, vR (o + 6 + 3 * K), vI x, vI ch, vI p, vI (am_w (a + 1)), vI (q + 1)], [], aq_h m s F c)) rfl rfl ?_
        exact qn_numberOf_in ⟨hm, hn1, hn4, hK, hFo, hFd, hFs⟩ hr d x ch p (am_w (a + 1)) (q + 1) (by omega) (by omega) (by omega) (by rw [← ha, nu_p, if_pos (by omega)]; first | rw [if_pos (by omega)] | rw [if_neg (by omega)]) (by omega) K0

theorem qn_numberOf_out {m s : Nat} {F : aq_F} {c : aq_C} {o n K : Nat} (hB : bx_0 m F o n K) (hr : aq_rg (o + 6 + 3 * K) (2 * (n : Int)) 0 (2 * (n : Int)) c) {T : Int} : ∀ (d : Nat) (x : Int) (ch : Int) (p : Int) (v5 : am_V) (v6 : am_V) (h0 : 0 ≤ p) (h1 : p ≤ 2 * (n : Int)) (hx : nu_o (c (o + 6 + 3 * K)) (2 * (n : Int)) d p x ch = T) (hd : 2 * (n : Int) - p < (d : Int)), am_E ac_X0_numberOf (12, [vR o, vR (o + 6 + 3 * K), vI x, vI ch, vI p, v5, v6], [], aq_h m s F c) (aq_P m s F c (fun r => r = some (vI T)))
  | 0, x, ch, p, v5, v6, h0, h1, hx, hd => by exfalso; omega
  | d + 1, x, ch, p, v5, v6, h0, h1, hx, hd => by
    obtain ⟨hm, hn1, hn4, hK, hFo, hFd, hFs⟩ := hB
    refine am_E.go (t2 := (14, [vR o, vR (o + 6 + 3 * K), vI x, vI ch, vI p, v5, v6], [vI p], aq_h m s F c)) rfl rfl ?_
    refine am_E.go (t2 := (15, [vR o, vR (o + 6 + 3 * K), vI x, vI ch, vI p, v5, v6], [vR o, vI p], aq_h m s F c)) rfl rfl ?_
    refine aq_gf (v := vI (2 * (n : Int))) rfl (by omega) hFo (by decide) rfl ?_
    show am_E _ (18, [vR o, vR (o + 6 + 3 * K), vI x, vI ch, vI p, v5, v6], [vI (2 * (n : Int)), vI p], aq_h m s F c) _
    refine ae_icmp rfl (fun (q_1 : (2 * (n : Int)) ≤ p) => ?_) (fun (q_1 : p < (2 * (n : Int))) => ?_)
    · refine am_E.go (t2 := (90, [vR o, vR (o + 6 + 3 * K), vI x, vI ch, vI p, v5, v6], [vI x], aq_h m s F c)) rfl rfl ?_
      refine am_E.ret rfl rfl ?_
      refine ⟨rfl, ?_⟩
      rw [← hx, nu_o, if_neg (by omega)]
    · refine am_E.go (t2 := (22, [vR o, vR (o + 6 + 3 * K), vI x, vI ch, vI p, v5, v6], [vR (o + 6 + 3 * K)], aq_h m s F c)) rfl rfl ?_
      refine am_E.go (t2 := (24, [vR o, vR (o + 6 + 3 * K), vI x, vI ch, vI p, v5, v6], [vI p, vR (o + 6 + 3 * K)], aq_h m s F c)) rfl rfl ?_
      refine aq_al (ok := fun k => k == 0) (v := vI (c (o + 6 + 3 * K) p)) rfl rfl (by omega) hFd rfl (by omega) (by omega) rfl ?_
      show am_E _ (25, [vR o, vR (o + 6 + 3 * K), vI x, vI ch, vI p, v5, v6], [vI (c (o + 6 + 3 * K) p)], aq_h m s F c) _
      have f_2 := hr p (by omega) (by omega)
      refine am_E.go (t2 := (27, [vR o, vR (o + 6 + 3 * K), vI x, vI ch, vI p, v5, v6], [vI p, vI (c (o + 6 + 3 * K) p)], aq_h m s F c)) rfl rfl ?_
      refine ae_icmp rfl (fun (q_3 : (c (o + 6 + 3 * K) p) ≤ p) => ?_) (fun (q_3 : p < (c (o + 6 + 3 * K) p)) => ?_)
      · refine ae_iinc rfl rfl (am_ri (by omega) (by omega)) ?_
        show am_E _ (86, [vR o, vR (o + 6 + 3 * K), vI x, vI ch, vI (p + 1), v5, v6], [], aq_h m s F c) _
        refine am_E.go (t2 := (12, [vR o, vR (o + 6 + 3 * K), vI x, vI ch, vI (p + 1), v5, v6], [], aq_h m s F c)) rfl rfl ?_
        exact qn_numberOf_out ⟨hm, hn1, hn4, hK, hFo, hFd, hFs⟩ hr d x ch (p + 1) (v5) (v6) (by omega) (by omega) (by rw [← hx, nu_o, if_pos (by omega)]; first | (rw [if_pos (by omega), ht_39]) | rw [if_neg (by omega)]) (by omega)
      · refine am_E.go (t2 := (31, [vR o, vR (o + 6 + 3 * K), vI x, vI ch, vI p, v5, v6], [vI 0], aq_h m s F c)) rfl rfl ?_
        refine am_E.go (t2 := (33, [vR o, vR (o + 6 + 3 * K), vI x, vI ch, vI p, vI 0, v6], [], aq_h m s F c)) rfl rfl ?_
        refine am_E.go (t2 := (35, [vR o, vR (o + 6 + 3 * K), vI x, vI ch, vI p, vI 0, v6], [vI p], aq_h m s F c)) rfl rfl ?_
        refine am_E.go (t2 := (36, [vR o, vR (o + 6 + 3 * K), vI x, vI ch, vI p, vI 0, v6], [vI 1, vI p], aq_h m s F c)) rfl rfl ?_
        refine ae_add rfl (am_ri (by omega) (by omega)) ?_
        show am_E _ (37, [vR o, vR (o + 6 + 3 * K), vI x, vI ch, vI p, vI 0, v6], [vI (p + 1)], aq_h m s F c) _
        refine am_E.go (t2 := (39, [vR o, vR (o + 6 + 3 * K), vI x, vI ch, vI p, vI 0, vI (p + 1)], [], aq_h m s F c)) rfl rfl ?_
        refine qn_numberOf_in ⟨hm, hn1, hn4, hK, hFo, hFd, hFs⟩ hr 9 x ch p 0 (p + 1) (by omega) (by omega) (by omega) rfl (by omega) ?_
        · intro a2_39 q2_39 ht_39
          refine am_E.go (t2 := (74, [vR o, vR (o + 6 + 3 * K), vI x, vI ch, vI p, vI a2_39, vI q2_39], [vI x], aq_h m s F c)) rfl rfl ?_
          refine am_E.go (t2 := (75, [vR o, vR (o + 6 + 3 * K), vI x, vI ch, vI p, vI a2_39, vI q2_39], [vI ch, vI x], aq_h m s F c)) rfl rfl ?_
          refine am_E.go (t2 := (76, [vR o, vR (o + 6 + 3 * K), vI x, vI ch, vI p, vI a2_39, vI q2_39], [vI (am_w (x * ch))], aq_h m s F c)) rfl rfl ?_
          refine am_E.go (t2 := (78, [vR o, vR (o + 6 + 3 * K), vI x, vI ch, vI p, vI a2_39, vI q2_39], [vI a2_39, vI (am_w (x * ch))], aq_h m s F c)) rfl rfl ?_
          refine am_E.go (t2 := (79, [vR o, vR (o + 6 + 3 * K), vI x, vI ch, vI p, vI a2_39, vI q2_39], [vI (am_w ((am_w (x * ch)) + a2_39))], aq_h m s F c)) rfl rfl ?_
          refine am_E.go (t2 := (80, [vR o, vR (o + 6 + 3 * K), vI (am_w ((am_w (x * ch)) + a2_39)), vI ch, vI p, vI a2_39, vI q2_39], [], aq_h m s F c)) rfl rfl ?_
          refine am_E.go (t2 := (83, [vR o, vR (o + 6 + 3 * K), vI (am_w ((am_w (x * ch)) + a2_39)), vI (am_w (ch + (-2))), vI p, vI a2_39, vI q2_39], [], aq_h m s F c)) rfl rfl ?_
          refine ae_iinc rfl rfl (am_ri (by omega) (by omega)) ?_
          show am_E _ (86, [vR o, vR (o + 6 + 3 * K), vI (am_w ((am_w (x * ch)) + a2_39)), vI (am_w (ch + (-2))), vI (p + 1), vI a2_39, vI q2_39], [], aq_h m s F c) _
          refine am_E.go (t2 := (12, [vR o, vR (o + 6 + 3 * K), vI (am_w ((am_w (x * ch)) + a2_39)), vI (am_w (ch + (-2))), vI (p + 1), vI a2_39, vI q2_39], [], aq_h m s F c)) rfl rfl ?_
          exact qn_numberOf_out ⟨hm, hn1, hn4, hK, hFo, hFd, hFs⟩ hr d (am_w ((am_w (x * ch)) + a2_39)) (am_w (ch + (-2))) (p + 1) (vI a2_39) (vI q2_39) (by omega) (by omega) (by rw [← hx, nu_o, if_pos (by omega)]; first | (rw [if_pos (by omega), ht_39]) | rw [if_neg (by omega)]) (by omega)

theorem qn_X0_numberOf {m s : Nat} {F : aq_F} {c : aq_C} {o n K : Nat} (hB : bx_0 m F o n K) (hr : aq_rg (o + 6 + 3 * K) (2 * (n : Int)) 0 (2 * (n : Int)) c) : am_E ac_X0_numberOf (0, [vR o, vR (o + 6 + 3 * K), vU, vU, vU, vU, vU], [], aq_h m s F c) (aq_P m s F c (fun r => r = some (vI (nu_o (c (o + 6 + 3 * K)) (2 * (n : Int)) 9 0 0 (2 * (n : Int) - 1))))) := by
  obtain ⟨hm, hn1, hn4, hK, hFo, hFd, hFs⟩ := hB
  refine am_E.go (t2 := (1, [vR o, vR (o + 6 + 3 * K), vU, vU, vU, vU, vU], [vI 0], aq_h m s F c)) rfl rfl ?_
  refine am_E.go (t2 := (2, [vR o, vR (o + 6 + 3 * K), vI 0, vU, vU, vU, vU], [], aq_h m s F c)) rfl rfl ?_
  refine am_E.go (t2 := (3, [vR o, vR (o + 6 + 3 * K), vI 0, vU, vU, vU, vU], [vR o], aq_h m s F c)) rfl rfl ?_
  refine aq_gf (v := vI (2 * (n : Int))) rfl (by omega) hFo (by decide) rfl ?_
  show am_E _ (6, [vR o, vR (o + 6 + 3 * K), vI 0, vU, vU, vU, vU], [vI (2 * (n : Int))], aq_h m s F c) _
  refine am_E.go (t2 := (7, [vR o, vR (o + 6 + 3 * K), vI 0, vU, vU, vU, vU], [vI 1, vI (2 * (n : Int))], aq_h m s F c)) rfl rfl ?_
  refine ae_sub rfl (am_ri (by omega) (by omega)) ?_
  show am_E _ (8, [vR o, vR (o + 6 + 3 * K), vI 0, vU, vU, vU, vU], [vI ((2 * (n : Int)) - 1)], aq_h m s F c) _
  refine am_E.go (t2 := (9, [vR o, vR (o + 6 + 3 * K), vI 0, vI ((2 * (n : Int)) - 1), vU, vU, vU], [], aq_h m s F c)) rfl rfl ?_
  refine am_E.go (t2 := (10, [vR o, vR (o + 6 + 3 * K), vI 0, vI ((2 * (n : Int)) - 1), vU, vU, vU], [vI 0], aq_h m s F c)) rfl rfl ?_
  refine am_E.go (t2 := (12, [vR o, vR (o + 6 + 3 * K), vI 0, vI ((2 * (n : Int)) - 1), vI 0, vU, vU], [], aq_h m s F c)) rfl rfl ?_
  exact qn_numberOf_out ⟨hm, hn1, hn4, hK, hFo, hFd, hFs⟩ hr 9 0 ((2 * (n : Int)) - 1) 0 (vU) (vU) (by omega) (by omega) rfl (by omega)

theorem qn_upsideDown_l {m s : Nat} {F : aq_F} {c0 : aq_C} {S : Nat → Prop} {o n K : Nat} (hB : bx_0 m F o n K) (hSd : S (o + 6 + 3 * K)) (hSs : S (o + 7 + 3 * K)) {tP : Int → Int → Int} (hP : bx_p F o n K tP) {b : Int} (hb0 : 0 ≤ b) (hbK : b < (K : Int)) : ∀ (d : Nat) (p : Int) (c : aq_C) (hs : aq_sm S c0 c) (h0 : 0 ≤ p) (h1 : p ≤ 2 * (n : Int)) (hr : aq_rg (o + 6 + 3 * K) (2 * (n : Int)) 0 (2 * (n : Int)) c) (hd : 2 * (n : Int) - p < (d : Int)), am_E ac_X0_upsideDown (2, [vR o, vI b, vI p], [], aq_h m s F c) (aq_Z m s F S c0 (fun r d => aq_vi r ∧ aq_rg (o + 6 + 3 * K) (2 * (n : Int)) 0 (2 * (n : Int)) d))
  | 0, p, c, hs, h0, h1, hr, hd => by exfalso; omega
  | d + 1, p, c, hs, h0, h1, hr, hd => by
    obtain ⟨hm, hn1, hn4, hK, hFo, hFd, hFs⟩ := hB
    obtain ⟨hPg, hPr, hPt⟩ := hP
    refine am_E.go (t2 := (3, [vR o, vI b, vI p], [vI p], aq_h m s F c)) rfl rfl ?_
    refine am_E.go (t2 := (4, [vR o, vI b, vI p], [vR o, vI p], aq_h m s F c)) rfl rfl ?_
    refine aq_gf (v := vI (2 * (n : Int))) rfl (by omega) hFo (by decide) rfl ?_
    show am_E _ (7, [vR o, vI b, vI p], [vI (2 * (n : Int)), vI p], aq_h m s F c) _
    refine ae_icmp rfl (fun (q_1 : (2 * (n : Int)) ≤ p) => ?_) (fun (q_1 : p < (2 * (n : Int))) => ?_)
    · refine am_E.go (t2 := (39, [vR o, vI b, vI p], [vR o], aq_h m s F c)) rfl rfl ?_
      refine am_E.go (t2 := (40, [vR o, vI b, vI p], [vR o, vR o], aq_h m s F c)) rfl rfl ?_
      refine aq_gf (v := vR (o + 6 + 3 * K)) rfl (by omega) hFo (by decide) rfl ?_
      show am_E _ (43, [vR o, vI b, vI p], [vR (o + 6 + 3 * K), vR o], aq_h m s F c) _
      refine aq_callv (y := 2) (as2 := [vR (o + 6 + 3 * K)]) (rest := []) rfl rfl (by decide) (Nat.le_of_ble_eq_true rfl) rfl rfl (Nat.le_of_ble_eq_true rfl) (by omega) hFo rfl (Nat.le_of_ble_eq_true rfl) (qn_X0_numberOf ⟨hm, hn1, hn4, hK, hFo, hFd, hFs⟩ hr) ?_
      rintro r5 h5 ⟨rfl, rfl⟩
      show am_E _ (46, [vR o, vI b, vI p], [vI (nu_o (c (o + 6 + 3 * K)) (2 * (n : Int)) 9 0 0 (2 * (n : Int) - 1))], aq_h m s F c) _
      refine am_E.ret rfl rfl ?_
      exact ⟨_, rfl, hs, ⟨_, rfl⟩, hr⟩
    · refine am_E.go (t2 := (11, [vR o, vI b, vI p], [vR o], aq_h m s F c)) rfl rfl ?_
      refine aq_gf (v := vR (o + 6 + 3 * K)) rfl (by omega) hFo (by decide) rfl ?_
      show am_E _ (14, [vR o, vI b, vI p], [vR (o + 6 + 3 * K)], aq_h m s F c) _
      refine am_E.go (t2 := (15, [vR o, vI b, vI p], [vR o, vR (o + 6 + 3 * K)], aq_h m s F c)) rfl rfl ?_
      refine am_E.go (t2 := (16, [vR o, vI b, vI p], [vI p, vR o, vR (o + 6 + 3 * K)], aq_h m s F c)) rfl rfl ?_
      refine aq_callv (y := 2) (as2 := [vI p]) (rest := [vR (o + 6 + 3 * K)]) rfl rfl (by decide) (Nat.le_of_ble_eq_true rfl) rfl rfl (Nat.le_of_ble_eq_true rfl) (by omega) hFo rfl (Nat.le_of_ble_eq_true rfl) (qn_X0_across ⟨hm, hn1, hn4, hK, hFo, hFd, hFs⟩ (by omega) (by omega)) ?_
      rintro r5 h5 ⟨rfl, v_2, rfl, hv_2⟩
      show am_E _ (19, [vR o, vI b, vI p], [vI v_2, vR (o + 6 + 3 * K)], aq_h m s F c) _
      refine am_E.go (t2 := (20, [vR o, vI b, vI p], [vR o, vI v_2, vR (o + 6 + 3 * K)], aq_h m s F c)) rfl rfl ?_
      refine am_E.go (t2 := (21, [vR o, vI b, vI p], [vR o, vR o, vI v_2, vR (o + 6 + 3 * K)], aq_h m s F c)) rfl rfl ?_
      refine aq_gf (v := vR (o + 1)) rfl (by omega) hFo (by decide) rfl ?_
      show am_E _ (24, [vR o, vI b, vI p], [vR (o + 1), vR o, vI v_2, vR (o + 6 + 3 * K)], aq_h m s F c) _
      refine am_E.go (t2 := (25, [vR o, vI b, vI p], [vI b, vR (o + 1), vR o, vI v_2, vR (o + 6 + 3 * K)], aq_h m s F c)) rfl rfl ?_
      refine aq_al (ok := fun k => decide (3 ≤ k) && decide (k < 7)) (v := vR (o + 2 + b.toNat)) rfl rfl (by omega) hPg rfl (by omega) (by omega) rfl ?_
      show am_E _ (26, [vR o, vI b, vI p], [vR (o + 2 + b.toNat), vR o, vI v_2, vR (o + 6 + 3 * K)], aq_h m s F c) _
      refine am_E.go (t2 := (27, [vR o, vI b, vI p], [vI p, vR (o + 2 + b.toNat), vR o, vI v_2, vR (o + 6 + 3 * K)], aq_h m s F c)) rfl rfl ?_
      refine aq_alt (ok := fun k => k == 0) rfl rfl (by omega) (hPr _ (by omega)) rfl (by omega) (by omega) ?_
      show am_E _ (28, [vR o, vI b, vI p], [vI (tP ((b.toNat : Nat) : Int) p), vR o, vI v_2, vR (o + 6 + 3 * K)], aq_h m s F c) _
      have f_3 := hPt ((b.toNat : Nat) : Int) p (by omega) (by omega) (by omega) (by omega)
      refine aq_callv (y := 2) (as2 := [vI (tP ((b.toNat : Nat) : Int) p)]) (rest := [vI v_2, vR (o + 6 + 3 * K)]) rfl rfl (by decide) (Nat.le_of_ble_eq_true rfl) rfl rfl (Nat.le_of_ble_eq_true rfl) (by omega) hFo rfl (Nat.le_of_ble_eq_true rfl) (qn_X0_across ⟨hm, hn1, hn4, hK, hFo, hFd, hFs⟩ (by omega) (by omega)) ?_
      rintro r5 h5 ⟨rfl, v_4, rfl, hv_4⟩
      show am_E _ (31, [vR o, vI b, vI p], [vI v_4, vI v_2, vR (o + 6 + 3 * K)], aq_h m s F c) _
      refine aq_as (kd := 0) rfl rfl (by omega) hFd (by omega) (by omega) rfl rfl ?_
      show am_E _ (32, [vR o, vI b, vI p], [], aq_h m s F (aq_u c (o + 6 + 3 * K) v_2 v_4)) _
      generalize hdc_5 : aq_u c (o + 6 + 3 * K) v_2 v_4 = c_5
      have sc_5 := aq_smu hs hdc_5 hSd
      have hdrc_5 := aq_rgu hr hdc_5 (by omega) (by omega)
      refine ae_iinc rfl rfl (am_ri (by omega) (by omega)) ?_
      show am_E _ (35, [vR o, vI b, vI (p + 1)], [], aq_h m s F c_5) _
      refine am_E.go (t2 := (2, [vR o, vI b, vI (p + 1)], [], aq_h m s F c_5)) rfl rfl ?_
      exact qn_upsideDown_l ⟨hm, hn1, hn4, hK, hFo, hFd, hFs⟩ hSd hSs ⟨hPg, hPr, hPt⟩ hb0 hbK d (p + 1) c_5 sc_5 (by omega) (by omega) hdrc_5 (by omega)

theorem qn_X0_upsideDown {m s : Nat} {F : aq_F} {c : aq_C} {S : Nat → Prop} {o n K : Nat} (hB : bx_0 m F o n K) (hSd : S (o + 6 + 3 * K)) (hSs : S (o + 7 + 3 * K)) {tP : Int → Int → Int} (hP : bx_p F o n K tP) {b : Int} (hb0 : 0 ≤ b) (hbK : b < (K : Int)) (hr : aq_rg (o + 6 + 3 * K) (2 * (n : Int)) 0 (2 * (n : Int)) c) : am_E ac_X0_upsideDown (0, [vR o, vI b, vU], [], aq_h m s F c) (aq_Z m s F S c (fun r d => aq_vi r ∧ aq_rg (o + 6 + 3 * K) (2 * (n : Int)) 0 (2 * (n : Int)) d)) := by
  obtain ⟨hm, hn1, hn4, hK, hFo, hFd, hFs⟩ := hB
  obtain ⟨hPg, hPr, hPt⟩ := hP
  refine am_E.go (t2 := (1, [vR o, vI b, vU], [vI 0], aq_h m s F c)) rfl rfl ?_
  refine am_E.go (t2 := (2, [vR o, vI b, vI 0], [], aq_h m s F c)) rfl rfl ?_
  exact qn_upsideDown_l ⟨hm, hn1, hn4, hK, hFo, hFd, hFs⟩ hSd hSs ⟨hPg, hPr, hPt⟩ hb0 hbK 9 0 c aq_sm0 (by omega) (by omega) hr (by omega)
end
section
/-! Boxes: letters, pairs, spellings. Printed by wip/p20/sx/gBX2.py. -/

theorem aq_fl {a : Nat} {p v : Int} {c d : aq_C} {g : Int → Int} (h : ∀ i, 0 ≤ i → i < p → c a i = g i) (he : aq_u c a p v = d) (hv : v = g p) : ∀ i, 0 ≤ i → i < p + 1 → d a i = g i := by
  intro i h1 h2
  rw [← he]
  by_cases e : i = p
  · rw [e, aq_us, hv]
  · rw [aq_un (Or.inr e)]
    exact h i h1 (by omega)
/-- the point in the same place on the other side -/
def bx_ac (n : Nat) (i : Int) : Int := if i < (n : Int) then i + (n : Int) else i - (n : Int)
/-- a plain box's pairing -/
def bx_ol (n : Nat) (l i : Int) : Int := if l = 0 then bx_ac n i else if l < 11 then (if i = (n : Int) + l then (n : Int) + l - 1 else if i = (n : Int) + l - 1 then (n : Int) + l else if i = l then l - 1 else if i = l - 1 then l else bx_ac n i) else (if i = (n : Int) + (l - 11) then l - 11 + 1 else if i = l - 11 + 1 then (n : Int) + (l - 11) else if i = (n : Int) + (l - 11) + 1 then l - 11 else if i = l - 11 then (n : Int) + (l - 11) + 1 else bx_ac n i)

theorem qn_X0_pair {m s : Nat} {F : aq_F} {c : aq_C} {a N : Nat} {i j : Int} (ha : a < m) (hF : F a = (0, N, fun _ => .inl 0)) (hi0 : 0 ≤ i) (hi : i < (N : Int)) (hj0 : 0 ≤ j) (hj : j < (N : Int)) : am_E ac_X0_pair (0, [vR a, vI i, vI j], [], aq_h m s F c) (fun r h2 => r = none ∧ h2 = aq_h m s F (aq_u (aq_u c a i j) a j i)) := by
  refine am_E.go (t2 := (1, [vR a, vI i, vI j], [vR a], aq_h m s F c)) rfl rfl ?_
  refine am_E.go (t2 := (2, [vR a, vI i, vI j], [vI i, vR a], aq_h m s F c)) rfl rfl ?_
  refine am_E.go (t2 := (3, [vR a, vI i, vI j], [vI j, vI i, vR a], aq_h m s F c)) rfl rfl ?_
  refine aq_as (kd := 0) rfl rfl ha hF (by omega) (by omega) rfl rfl ?_
  show am_E _ (4, [vR a, vI i, vI j], [], aq_h m s F (aq_u c a i j)) _
  generalize hdc_1 : aq_u c a i j = c_1
  refine am_E.go (t2 := (5, [vR a, vI i, vI j], [vR a], aq_h m s F c_1)) rfl rfl ?_
  refine am_E.go (t2 := (6, [vR a, vI i, vI j], [vI j, vR a], aq_h m s F c_1)) rfl rfl ?_
  refine am_E.go (t2 := (7, [vR a, vI i, vI j], [vI i, vI j, vR a], aq_h m s F c_1)) rfl rfl ?_
  refine aq_as (kd := 0) rfl rfl ha hF (by omega) (by omega) rfl rfl ?_
  show am_E _ (8, [vR a, vI i, vI j], [], aq_h m s F (aq_u c_1 a j i)) _
  generalize hdc_2 : aq_u c_1 a j i = c_2
  refine am_E.ret rfl rfl ?_
  subst hdc_1 hdc_2
  exact ⟨rfl, rfl⟩

theorem qn_forgetSeen_l {m s : Nat} {F : aq_F} {c0 : aq_C} {o n K : Nat} (hB : bx_0 m F o n K) : ∀ (d : Nat) (p : Int) (c : aq_C) (hs : aq_sm (fun a => a = o + 7 + 3 * K) c0 c) (h0 : 0 ≤ p) (h1 : p ≤ 2 * (n : Int)) (hz : ∀ i, 0 ≤ i → i < p → c (o + 7 + 3 * K) i = (fun _ => 0) i) (hd : 2 * (n : Int) - p < (d : Int)), am_E ac_X0_forgetSeen (2, [vR o, vI p], [], aq_h m s F c) (aq_Z m s F (fun a => a = o + 7 + 3 * K) c0 (fun r d => r = none ∧ ∀ i, 0 ≤ i → i < 2 * (n : Int) → d (o + 7 + 3 * K) i = 0))
  | 0, p, c, hs, h0, h1, hz, hd => by exfalso; omega
  | d + 1, p, c, hs, h0, h1, hz, hd => by
    obtain ⟨hm, hn1, hn4, hK, hFo, hFd, hFs⟩ := hB
    refine am_E.go (t2 := (3, [vR o, vI p], [vI p], aq_h m s F c)) rfl rfl ?_
    refine am_E.go (t2 := (4, [vR o, vI p], [vR o, vI p], aq_h m s F c)) rfl rfl ?_
    refine aq_gf (v := vI (2 * (n : Int))) rfl (by omega) hFo (by decide) rfl ?_
    show am_E _ (7, [vR o, vI p], [vI (2 * (n : Int)), vI p], aq_h m s F c) _
    refine ae_icmp rfl (fun (q_1 : (2 * (n : Int)) ≤ p) => ?_) (fun (q_1 : p < (2 * (n : Int))) => ?_)
    · refine am_E.ret rfl rfl ?_
      exact ⟨_, rfl, hs, rfl, fun i h1 h2 => hz i h1 (by omega)⟩
    · refine am_E.go (t2 := (11, [vR o, vI p], [vR o], aq_h m s F c)) rfl rfl ?_
      refine aq_gf (v := vR (o + 7 + 3 * K)) rfl (by omega) hFo (by decide) rfl ?_
      show am_E _ (14, [vR o, vI p], [vR (o + 7 + 3 * K)], aq_h m s F c) _
      refine am_E.go (t2 := (15, [vR o, vI p], [vI p, vR (o + 7 + 3 * K)], aq_h m s F c)) rfl rfl ?_
      refine am_E.go (t2 := (16, [vR o, vI p], [vI 0, vI p, vR (o + 7 + 3 * K)], aq_h m s F c)) rfl rfl ?_
      refine aq_as (kd := 1) rfl rfl (by omega) hFs (by omega) (by omega) rfl rfl ?_
      show am_E _ (17, [vR o, vI p], [], aq_h m s F (aq_u c (o + 7 + 3 * K) p 0)) _
      generalize hdc_2 : aq_u c (o + 7 + 3 * K) p 0 = c_2
      have sc_2 := aq_smu hs hdc_2 rfl
      refine ae_iinc rfl rfl (am_ri (by omega) (by omega)) ?_
      show am_E _ (20, [vR o, vI (p + 1)], [], aq_h m s F c_2) _
      refine am_E.go (t2 := (2, [vR o, vI (p + 1)], [], aq_h m s F c_2)) rfl rfl ?_
      exact qn_forgetSeen_l ⟨hm, hn1, hn4, hK, hFo, hFd, hFs⟩ d (p + 1) c_2 sc_2 (by omega) (by omega) (aq_fl hz hdc_2 rfl) (by omega)

theorem qn_X0_forgetSeen {m s : Nat} {F : aq_F} {c : aq_C} {o n K : Nat} (hB : bx_0 m F o n K) : am_E ac_X0_forgetSeen (0, [vR o, vU], [], aq_h m s F c) (aq_Z m s F (fun a => a = o + 7 + 3 * K) c (fun r d => r = none ∧ ∀ i, 0 ≤ i → i < 2 * (n : Int) → d (o + 7 + 3 * K) i = 0)) := by
  obtain ⟨hm, hn1, hn4, hK, hFo, hFd, hFs⟩ := hB
  refine am_E.go (t2 := (1, [vR o, vU], [vI 0], aq_h m s F c)) rfl rfl ?_
  refine am_E.go (t2 := (2, [vR o, vI 0], [], aq_h m s F c)) rfl rfl ?_
  exact qn_forgetSeen_l ⟨hm, hn1, hn4, hK, hFo, hFd, hFs⟩ 9 0 c aq_sm0 (by omega) (by omega) (fun i h1 h2 => absurd h2 (by omega)) (by omega)

theorem qn_X0_isLetter {m s : Nat} {F : aq_F} {c : aq_C} {o n K : Nat} (hB : bx_0 m F o n K) {l : Int} : am_E ac_X0_isLetter (0, [vR o, vI l], [], aq_h m s F c) (aq_P m s F c (fun r => ∃ v, r = some (vI v) ∧ ((v = 1 ∧ ((1 ≤ l ∧ l < (n : Int)) ∨ (11 ≤ l ∧ l < 10 + (n : Int)))) ∨ (v = 0 ∧ ¬ ((1 ≤ l ∧ l < (n : Int)) ∨ (11 ≤ l ∧ l < 10 + (n : Int))))))) := by
  obtain ⟨hm, hn1, hn4, hK, hFo, hFd, hFs⟩ := hB
  refine am_E.go (t2 := (1, [vR o, vI l], [vI l], aq_h m s F c)) rfl rfl ?_
  refine am_E.go (t2 := (2, [vR o, vI l], [vI 1, vI l], aq_h m s F c)) rfl rfl ?_
  refine ae_icmp rfl (fun (q_1 : l < 1) => ?_) (fun (q_1 : 1 ≤ l) => ?_)
  · refine am_E.go (t2 := (14, [vR o, vI l], [vI l], aq_h m s F c)) rfl rfl ?_
    refine am_E.go (t2 := (16, [vR o, vI l], [vI 11, vI l], aq_h m s F c)) rfl rfl ?_
    refine ae_icmp rfl (fun (q_2 : l < 11) => ?_) (fun (q_2 : 11 ≤ l) => ?_)
    · refine am_E.go (t2 := (37, [vR o, vI l], [vI 0], aq_h m s F c)) rfl rfl ?_
      refine am_E.ret rfl rfl ?_
      exact ⟨rfl, _, rfl, by omega⟩
    · refine am_E.go (t2 := (20, [vR o, vI l], [vI l], aq_h m s F c)) rfl rfl ?_
      refine am_E.go (t2 := (22, [vR o, vI l], [vI 11, vI l], aq_h m s F c)) rfl rfl ?_
      refine am_E.go (t2 := (23, [vR o, vI l], [vR o, vI 11, vI l], aq_h m s F c)) rfl rfl ?_
      refine aq_gf (v := vI (n : Int)) rfl (by omega) hFo (by decide) rfl ?_
      show am_E _ (26, [vR o, vI l], [vI (n : Int), vI 11, vI l], aq_h m s F c) _
      refine ae_add rfl (am_ri (by omega) (by omega)) ?_
      show am_E _ (27, [vR o, vI l], [vI (11 + (n : Int)), vI l], aq_h m s F c) _
      refine am_E.go (t2 := (28, [vR o, vI l], [vI 1, vI (11 + (n : Int)), vI l], aq_h m s F c)) rfl rfl ?_
      refine ae_sub rfl (am_ri (by omega) (by omega)) ?_
      show am_E _ (29, [vR o, vI l], [vI ((11 + (n : Int)) - 1), vI l], aq_h m s F c) _
      refine ae_icmp rfl (fun (q_3 : ((11 + (n : Int)) - 1) ≤ l) => ?_) (fun (q_3 : l < ((11 + (n : Int)) - 1)) => ?_)
      · refine am_E.go (t2 := (37, [vR o, vI l], [vI 0], aq_h m s F c)) rfl rfl ?_
        refine am_E.ret rfl rfl ?_
        exact ⟨rfl, _, rfl, by omega⟩
      · refine am_E.go (t2 := (33, [vR o, vI l], [vI 1], aq_h m s F c)) rfl rfl ?_
        refine am_E.go (t2 := (37, [vR o, vI l], [vI 1], aq_h m s F c)) rfl rfl ?_
        refine am_E.ret rfl rfl ?_
        exact ⟨rfl, _, rfl, by omega⟩
  · refine am_E.go (t2 := (6, [vR o, vI l], [vI l], aq_h m s F c)) rfl rfl ?_
    refine am_E.go (t2 := (7, [vR o, vI l], [vR o, vI l], aq_h m s F c)) rfl rfl ?_
    refine aq_gf (v := vI (n : Int)) rfl (by omega) hFo (by decide) rfl ?_
    show am_E _ (10, [vR o, vI l], [vI (n : Int), vI l], aq_h m s F c) _
    refine ae_icmp rfl (fun (q_4 : l < (n : Int)) => ?_) (fun (q_4 : (n : Int) ≤ l) => ?_)
    · refine am_E.go (t2 := (33, [vR o, vI l], [vI 1], aq_h m s F c)) rfl rfl ?_
      refine am_E.go (t2 := (37, [vR o, vI l], [vI 1], aq_h m s F c)) rfl rfl ?_
      refine am_E.ret rfl rfl ?_
      exact ⟨rfl, _, rfl, by omega⟩
    · refine am_E.go (t2 := (14, [vR o, vI l], [vI l], aq_h m s F c)) rfl rfl ?_
      refine am_E.go (t2 := (16, [vR o, vI l], [vI 11, vI l], aq_h m s F c)) rfl rfl ?_
      refine ae_icmp rfl (fun (q_5 : l < 11) => ?_) (fun (q_5 : 11 ≤ l) => ?_)
      · refine am_E.go (t2 := (37, [vR o, vI l], [vI 0], aq_h m s F c)) rfl rfl ?_
        refine am_E.ret rfl rfl ?_
        exact ⟨rfl, _, rfl, by omega⟩
      · refine am_E.go (t2 := (20, [vR o, vI l], [vI l], aq_h m s F c)) rfl rfl ?_
        refine am_E.go (t2 := (22, [vR o, vI l], [vI 11, vI l], aq_h m s F c)) rfl rfl ?_
        refine am_E.go (t2 := (23, [vR o, vI l], [vR o, vI 11, vI l], aq_h m s F c)) rfl rfl ?_
        refine aq_gf (v := vI (n : Int)) rfl (by omega) hFo (by decide) rfl ?_
        show am_E _ (26, [vR o, vI l], [vI (n : Int), vI 11, vI l], aq_h m s F c) _
        refine ae_add rfl (am_ri (by omega) (by omega)) ?_
        show am_E _ (27, [vR o, vI l], [vI (11 + (n : Int)), vI l], aq_h m s F c) _
        refine am_E.go (t2 := (28, [vR o, vI l], [vI 1, vI (11 + (n : Int)), vI l], aq_h m s F c)) rfl rfl ?_
        refine ae_sub rfl (am_ri (by omega) (by omega)) ?_
        show am_E _ (29, [vR o, vI l], [vI ((11 + (n : Int)) - 1), vI l], aq_h m s F c) _
        refine ae_icmp rfl (fun (q_6 : ((11 + (n : Int)) - 1) ≤ l) => ?_) (fun (q_6 : l < ((11 + (n : Int)) - 1)) => ?_)
        · refine am_E.go (t2 := (37, [vR o, vI l], [vI 0], aq_h m s F c)) rfl rfl ?_
          refine am_E.ret rfl rfl ?_
          exact ⟨rfl, _, rfl, by omega⟩
        · refine am_E.go (t2 := (33, [vR o, vI l], [vI 1], aq_h m s F c)) rfl rfl ?_
          refine am_E.go (t2 := (37, [vR o, vI l], [vI 1], aq_h m s F c)) rfl rfl ?_
          refine am_E.ret rfl rfl ?_
          exact ⟨rfl, _, rfl, by omega⟩

theorem qn_ofLetter_l {m s : Nat} {F : aq_F} {c0 : aq_C} {S : Nat → Prop} {o n K : Nat} (hB : bx_0 m F o n K) (hSd : S (o + 6 + 3 * K)) (hSs : S (o + 7 + 3 * K)) {l : Int} : ∀ (d : Nat) (p : Int) (c : aq_C) (hs : aq_sm S c0 c) (h0 : 0 ≤ p) (h1 : p ≤ 2 * (n : Int)) (hl : l = 0 ∨ ((1 ≤ l ∧ l < (n : Int)) ∨ (11 ≤ l ∧ l < 10 + (n : Int)))) (hr : aq_rg (o + 6 + 3 * K) (2 * (n : Int)) 0 (2 * (n : Int)) c) (hz : ∀ i, 0 ≤ i → i < p → c (o + 6 + 3 * K) i = bx_ac n i) (hd : 2 * (n : Int) - p < (d : Int)), am_E ac_X0_ofLetter (16, [vR o, vI l, vI p], [], aq_h m s F c) (aq_Z m s F S c0 (fun r d => aq_rg (o + 6 + 3 * K) (2 * (n : Int)) 0 (2 * (n : Int)) d ∧ ((¬ (l = 0 ∨ ((1 ≤ l ∧ l < (n : Int)) ∨ (11 ≤ l ∧ l < 10 + (n : Int)))) ∧ r = some (vI (-1))) ∨ ((l = 0 ∨ ((1 ≤ l ∧ l < (n : Int)) ∨ (11 ≤ l ∧ l < 10 + (n : Int)))) ∧ (∀ i, 0 ≤ i → i < 2 * (n : Int) → d (o + 6 + 3 * K) i = bx_ol n l i) ∧ r = some (vI (nu_o (d (o + 6 + 3 * K)) (2 * (n : Int)) 9 0 0 (2 * (n : Int) - 1)))))))
  | 0, p, c, hs, h0, h1, hl, hr, hz, hd => by exfalso; omega
  | d + 1, p, c, hs, h0, h1, hl, hr, hz, hd => by
    obtain ⟨hm, hn1, hn4, hK, hFo, hFd, hFs⟩ := hB
    refine am_E.go (t2 := (17, [vR o, vI l, vI p], [vI p], aq_h m s F c)) rfl rfl ?_
    refine am_E.go (t2 := (18, [vR o, vI l, vI p], [vR o, vI p], aq_h m s F c)) rfl rfl ?_
    refine aq_gf (v := vI (2 * (n : Int))) rfl (by omega) hFo (by decide) rfl ?_
    show am_E _ (21, [vR o, vI l, vI p], [vI (2 * (n : Int)), vI p], aq_h m s F c) _
    refine ae_icmp rfl (fun (q_1 : (2 * (n : Int)) ≤ p) => ?_) (fun (q_1 : p < (2 * (n : Int))) => ?_)
    · refine am_E.go (t2 := (42, [vR o, vI l, vI p], [vI l], aq_h m s F c)) rfl rfl ?_
      refine am_E.go (t2 := (44, [vR o, vI l, vI p], [vI 11, vI l], aq_h m s F c)) rfl rfl ?_
      refine ae_icmp rfl (fun (q_2 : l < 11) => ?_) (fun (q_2 : 11 ≤ l) => ?_)
      · refine am_E.go (t2 := (88, [vR o, vI l, vI p], [vI l], aq_h m s F c)) rfl rfl ?_
        refine ae_if0 rfl (fun (q_3 : l ≤ 0) => ?_) (fun (q_3 : 0 < l) => ?_)
        · refine am_E.go (t2 := (124, [vR o, vI l, vI p], [vR o], aq_h m s F c)) rfl rfl ?_
          refine am_E.go (t2 := (125, [vR o, vI l, vI p], [vR o, vR o], aq_h m s F c)) rfl rfl ?_
          refine aq_gf (v := vR (o + 6 + 3 * K)) rfl (by omega) hFo (by decide) rfl ?_
          show am_E _ (128, [vR o, vI l, vI p], [vR (o + 6 + 3 * K), vR o], aq_h m s F c) _
          refine aq_callv (y := 2) (as2 := [vR (o + 6 + 3 * K)]) (rest := []) rfl rfl (by decide) (Nat.le_of_ble_eq_true rfl) rfl rfl (Nat.le_of_ble_eq_true rfl) (by omega) hFo rfl (Nat.le_of_ble_eq_true rfl) (qn_X0_numberOf ⟨hm, hn1, hn4, hK, hFo, hFd, hFs⟩ hr) ?_
          rintro r5 h5 ⟨rfl, rfl⟩
          show am_E _ (131, [vR o, vI l, vI p], [vI (nu_o (c (o + 6 + 3 * K)) (2 * (n : Int)) 9 0 0 (2 * (n : Int) - 1))], aq_h m s F c) _
          refine am_E.ret rfl rfl ?_
          refine ⟨_, rfl, hs, hr, Or.inr ⟨by omega, fun i h5 h6 => ?_, rfl⟩⟩
          have e5 := hz i h5 (by omega)
          simp only [aq_u, bx_ol, true_and]
          (repeat' split) <;> omega
        · refine am_E.go (t2 := (92, [vR o, vI l, vI p], [vR o], aq_h m s F c)) rfl rfl ?_
          refine aq_gf (v := vR (o + 6 + 3 * K)) rfl (by omega) hFo (by decide) rfl ?_
          show am_E _ (95, [vR o, vI l, vI p], [vR (o + 6 + 3 * K)], aq_h m s F c) _
          refine am_E.go (t2 := (96, [vR o, vI l, vI p], [vI l, vR (o + 6 + 3 * K)], aq_h m s F c)) rfl rfl ?_
          refine am_E.go (t2 := (97, [vR o, vI l, vI p], [vI 1, vI l, vR (o + 6 + 3 * K)], aq_h m s F c)) rfl rfl ?_
          refine ae_sub rfl (am_ri (by omega) (by omega)) ?_
          show am_E _ (98, [vR o, vI l, vI p], [vI (l - 1), vR (o + 6 + 3 * K)], aq_h m s F c) _
          refine am_E.go (t2 := (99, [vR o, vI l, vI p], [vI l, vI (l - 1), vR (o + 6 + 3 * K)], aq_h m s F c)) rfl rfl ?_
          refine am_E.call rfl rfl rfl (Nat.le_of_ble_eq_true rfl) (qn_X0_pair (by omega) hFd (by omega) (by omega) (by omega) (by omega)) ?_
          rintro r5 h5 ⟨rfl, rfl⟩
          show am_E _ (102, [vR o, vI l, vI p], [], aq_h m s F (aq_u (aq_u c (o + 6 + 3 * K) (l - 1) l) (o + 6 + 3 * K) l (l - 1))) _
          generalize hdc_4 : aq_u c (o + 6 + 3 * K) (l - 1) l = c_4
          have sc_4 := aq_smu hs hdc_4 hSd
          have hdrc_4 := aq_rgu hr hdc_4 (by omega) (by omega)
          generalize hdc_5 : aq_u c_4 (o + 6 + 3 * K) l (l - 1) = c_5
          have sc_5 := aq_smu sc_4 hdc_5 hSd
          have hdrc_5 := aq_rgu hdrc_4 hdc_5 (by omega) (by omega)
          refine am_E.go (t2 := (103, [vR o, vI l, vI p], [vR o], aq_h m s F c_5)) rfl rfl ?_
          refine aq_gf (v := vR (o + 6 + 3 * K)) rfl (by omega) hFo (by decide) rfl ?_
          show am_E _ (106, [vR o, vI l, vI p], [vR (o + 6 + 3 * K)], aq_h m s F c_5) _
          refine am_E.go (t2 := (107, [vR o, vI l, vI p], [vR o, vR (o + 6 + 3 * K)], aq_h m s F c_5)) rfl rfl ?_
          refine aq_gf (v := vI (n : Int)) rfl (by omega) hFo (by decide) rfl ?_
          show am_E _ (110, [vR o, vI l, vI p], [vI (n : Int), vR (o + 6 + 3 * K)], aq_h m s F c_5) _
          refine am_E.go (t2 := (111, [vR o, vI l, vI p], [vI l, vI (n : Int), vR (o + 6 + 3 * K)], aq_h m s F c_5)) rfl rfl ?_
          refine ae_add rfl (am_ri (by omega) (by omega)) ?_
          show am_E _ (112, [vR o, vI l, vI p], [vI ((n : Int) + l), vR (o + 6 + 3 * K)], aq_h m s F c_5) _
          refine am_E.go (t2 := (113, [vR o, vI l, vI p], [vI 1, vI ((n : Int) + l), vR (o + 6 + 3 * K)], aq_h m s F c_5)) rfl rfl ?_
          refine ae_sub rfl (am_ri (by omega) (by omega)) ?_
          show am_E _ (114, [vR o, vI l, vI p], [vI (((n : Int) + l) - 1), vR (o + 6 + 3 * K)], aq_h m s F c_5) _
          refine am_E.go (t2 := (115, [vR o, vI l, vI p], [vR o, vI (((n : Int) + l) - 1), vR (o + 6 + 3 * K)], aq_h m s F c_5)) rfl rfl ?_
          refine aq_gf (v := vI (n : Int)) rfl (by omega) hFo (by decide) rfl ?_
          show am_E _ (118, [vR o, vI l, vI p], [vI (n : Int), vI (((n : Int) + l) - 1), vR (o + 6 + 3 * K)], aq_h m s F c_5) _
          refine am_E.go (t2 := (119, [vR o, vI l, vI p], [vI l, vI (n : Int), vI (((n : Int) + l) - 1), vR (o + 6 + 3 * K)], aq_h m s F c_5)) rfl rfl ?_
          refine ae_add rfl (am_ri (by omega) (by omega)) ?_
          show am_E _ (120, [vR o, vI l, vI p], [vI ((n : Int) + l), vI (((n : Int) + l) - 1), vR (o + 6 + 3 * K)], aq_h m s F c_5) _
          refine am_E.call rfl rfl rfl (Nat.le_of_ble_eq_true rfl) (qn_X0_pair (by omega) hFd (by omega) (by omega) (by omega) (by omega)) ?_
          rintro r5 h5 ⟨rfl, rfl⟩
          show am_E _ (123, [vR o, vI l, vI p], [], aq_h m s F (aq_u (aq_u c_5 (o + 6 + 3 * K) (((n : Int) + l) - 1) ((n : Int) + l)) (o + 6 + 3 * K) ((n : Int) + l) (((n : Int) + l) - 1))) _
          generalize hdc_6 : aq_u c_5 (o + 6 + 3 * K) (((n : Int) + l) - 1) ((n : Int) + l) = c_6
          have sc_6 := aq_smu sc_5 hdc_6 hSd
          have hdrc_6 := aq_rgu hdrc_5 hdc_6 (by omega) (by omega)
          generalize hdc_7 : aq_u c_6 (o + 6 + 3 * K) ((n : Int) + l) (((n : Int) + l) - 1) = c_7
          have sc_7 := aq_smu sc_6 hdc_7 hSd
          have hdrc_7 := aq_rgu hdrc_6 hdc_7 (by omega) (by omega)
          refine am_E.go (t2 := (124, [vR o, vI l, vI p], [vR o], aq_h m s F c_7)) rfl rfl ?_
          refine am_E.go (t2 := (125, [vR o, vI l, vI p], [vR o, vR o], aq_h m s F c_7)) rfl rfl ?_
          refine aq_gf (v := vR (o + 6 + 3 * K)) rfl (by omega) hFo (by decide) rfl ?_
          show am_E _ (128, [vR o, vI l, vI p], [vR (o + 6 + 3 * K), vR o], aq_h m s F c_7) _
          refine aq_callv (y := 2) (as2 := [vR (o + 6 + 3 * K)]) (rest := []) rfl rfl (by decide) (Nat.le_of_ble_eq_true rfl) rfl rfl (Nat.le_of_ble_eq_true rfl) (by omega) hFo rfl (Nat.le_of_ble_eq_true rfl) (qn_X0_numberOf ⟨hm, hn1, hn4, hK, hFo, hFd, hFs⟩ hdrc_7) ?_
          rintro r5 h5 ⟨rfl, rfl⟩
          show am_E _ (131, [vR o, vI l, vI p], [vI (nu_o (c_7 (o + 6 + 3 * K)) (2 * (n : Int)) 9 0 0 (2 * (n : Int) - 1))], aq_h m s F c_7) _
          refine am_E.ret rfl rfl ?_
          refine ⟨_, rfl, sc_7, hdrc_7, Or.inr ⟨by omega, fun i h5 h6 => ?_, rfl⟩⟩
          have e5 := hz i h5 (by omega)
          rw [← hdc_7, ← hdc_6, ← hdc_5, ← hdc_4]
          simp only [aq_u, bx_ol, true_and]
          (repeat' split) <;> omega
      · refine am_E.go (t2 := (48, [vR o, vI l, vI p], [vI l], aq_h m s F c)) rfl rfl ?_
        refine am_E.go (t2 := (50, [vR o, vI l, vI p], [vI 11, vI l], aq_h m s F c)) rfl rfl ?_
        refine ae_sub rfl (am_ri (by omega) (by omega)) ?_
        show am_E _ (51, [vR o, vI l, vI p], [vI (l - 11)], aq_h m s F c) _
        refine am_E.go (t2 := (52, [vR o, vI l, vI (l - 11)], [], aq_h m s F c)) rfl rfl ?_
        refine am_E.go (t2 := (53, [vR o, vI l, vI (l - 11)], [vR o], aq_h m s F c)) rfl rfl ?_
        refine aq_gf (v := vR (o + 6 + 3 * K)) rfl (by omega) hFo (by decide) rfl ?_
        show am_E _ (56, [vR o, vI l, vI (l - 11)], [vR (o + 6 + 3 * K)], aq_h m s F c) _
        refine am_E.go (t2 := (57, [vR o, vI l, vI (l - 11)], [vI (l - 11), vR (o + 6 + 3 * K)], aq_h m s F c)) rfl rfl ?_
        refine am_E.go (t2 := (58, [vR o, vI l, vI (l - 11)], [vR o, vI (l - 11), vR (o + 6 + 3 * K)], aq_h m s F c)) rfl rfl ?_
        refine aq_gf (v := vI (n : Int)) rfl (by omega) hFo (by decide) rfl ?_
        show am_E _ (61, [vR o, vI l, vI (l - 11)], [vI (n : Int), vI (l - 11), vR (o + 6 + 3 * K)], aq_h m s F c) _
        refine am_E.go (t2 := (62, [vR o, vI l, vI (l - 11)], [vI (l - 11), vI (n : Int), vI (l - 11), vR (o + 6 + 3 * K)], aq_h m s F c)) rfl rfl ?_
        refine ae_add rfl (am_ri (by omega) (by omega)) ?_
        show am_E _ (63, [vR o, vI l, vI (l - 11)], [vI ((n : Int) + (l - 11)), vI (l - 11), vR (o + 6 + 3 * K)], aq_h m s F c) _
        refine am_E.go (t2 := (64, [vR o, vI l, vI (l - 11)], [vI 1, vI ((n : Int) + (l - 11)), vI (l - 11), vR (o + 6 + 3 * K)], aq_h m s F c)) rfl rfl ?_
        refine ae_add rfl (am_ri (by omega) (by omega)) ?_
        show am_E _ (65, [vR o, vI l, vI (l - 11)], [vI (((n : Int) + (l - 11)) + 1), vI (l - 11), vR (o + 6 + 3 * K)], aq_h m s F c) _
        refine am_E.call rfl rfl rfl (Nat.le_of_ble_eq_true rfl) (qn_X0_pair (by omega) hFd (by omega) (by omega) (by omega) (by omega)) ?_
        rintro r5 h5 ⟨rfl, rfl⟩
        show am_E _ (68, [vR o, vI l, vI (l - 11)], [], aq_h m s F (aq_u (aq_u c (o + 6 + 3 * K) (l - 11) (((n : Int) + (l - 11)) + 1)) (o + 6 + 3 * K) (((n : Int) + (l - 11)) + 1) (l - 11))) _
        generalize hdc_8 : aq_u c (o + 6 + 3 * K) (l - 11) (((n : Int) + (l - 11)) + 1) = c_8
        have sc_8 := aq_smu hs hdc_8 hSd
        have hdrc_8 := aq_rgu hr hdc_8 (by omega) (by omega)
        generalize hdc_9 : aq_u c_8 (o + 6 + 3 * K) (((n : Int) + (l - 11)) + 1) (l - 11) = c_9
        have sc_9 := aq_smu sc_8 hdc_9 hSd
        have hdrc_9 := aq_rgu hdrc_8 hdc_9 (by omega) (by omega)
        refine am_E.go (t2 := (69, [vR o, vI l, vI (l - 11)], [vR o], aq_h m s F c_9)) rfl rfl ?_
        refine aq_gf (v := vR (o + 6 + 3 * K)) rfl (by omega) hFo (by decide) rfl ?_
        show am_E _ (72, [vR o, vI l, vI (l - 11)], [vR (o + 6 + 3 * K)], aq_h m s F c_9) _
        refine am_E.go (t2 := (73, [vR o, vI l, vI (l - 11)], [vI (l - 11), vR (o + 6 + 3 * K)], aq_h m s F c_9)) rfl rfl ?_
        refine am_E.go (t2 := (74, [vR o, vI l, vI (l - 11)], [vI 1, vI (l - 11), vR (o + 6 + 3 * K)], aq_h m s F c_9)) rfl rfl ?_
        refine ae_add rfl (am_ri (by omega) (by omega)) ?_
        show am_E _ (75, [vR o, vI l, vI (l - 11)], [vI ((l - 11) + 1), vR (o + 6 + 3 * K)], aq_h m s F c_9) _
        refine am_E.go (t2 := (76, [vR o, vI l, vI (l - 11)], [vR o, vI ((l - 11) + 1), vR (o + 6 + 3 * K)], aq_h m s F c_9)) rfl rfl ?_
        refine aq_gf (v := vI (n : Int)) rfl (by omega) hFo (by decide) rfl ?_
        show am_E _ (79, [vR o, vI l, vI (l - 11)], [vI (n : Int), vI ((l - 11) + 1), vR (o + 6 + 3 * K)], aq_h m s F c_9) _
        refine am_E.go (t2 := (80, [vR o, vI l, vI (l - 11)], [vI (l - 11), vI (n : Int), vI ((l - 11) + 1), vR (o + 6 + 3 * K)], aq_h m s F c_9)) rfl rfl ?_
        refine ae_add rfl (am_ri (by omega) (by omega)) ?_
        show am_E _ (81, [vR o, vI l, vI (l - 11)], [vI ((n : Int) + (l - 11)), vI ((l - 11) + 1), vR (o + 6 + 3 * K)], aq_h m s F c_9) _
        refine am_E.call rfl rfl rfl (Nat.le_of_ble_eq_true rfl) (qn_X0_pair (by omega) hFd (by omega) (by omega) (by omega) (by omega)) ?_
        rintro r5 h5 ⟨rfl, rfl⟩
        show am_E _ (84, [vR o, vI l, vI (l - 11)], [], aq_h m s F (aq_u (aq_u c_9 (o + 6 + 3 * K) ((l - 11) + 1) ((n : Int) + (l - 11))) (o + 6 + 3 * K) ((n : Int) + (l - 11)) ((l - 11) + 1))) _
        generalize hdc_10 : aq_u c_9 (o + 6 + 3 * K) ((l - 11) + 1) ((n : Int) + (l - 11)) = c_10
        have sc_10 := aq_smu sc_9 hdc_10 hSd
        have hdrc_10 := aq_rgu hdrc_9 hdc_10 (by omega) (by omega)
        generalize hdc_11 : aq_u c_10 (o + 6 + 3 * K) ((n : Int) + (l - 11)) ((l - 11) + 1) = c_11
        have sc_11 := aq_smu sc_10 hdc_11 hSd
        have hdrc_11 := aq_rgu hdrc_10 hdc_11 (by omega) (by omega)
        refine am_E.go (t2 := (123, [vR o, vI l, vI (l - 11)], [], aq_h m s F c_11)) rfl rfl ?_
        refine am_E.go (t2 := (124, [vR o, vI l, vI (l - 11)], [vR o], aq_h m s F c_11)) rfl rfl ?_
        refine am_E.go (t2 := (125, [vR o, vI l, vI (l - 11)], [vR o, vR o], aq_h m s F c_11)) rfl rfl ?_
        refine aq_gf (v := vR (o + 6 + 3 * K)) rfl (by omega) hFo (by decide) rfl ?_
        show am_E _ (128, [vR o, vI l, vI (l - 11)], [vR (o + 6 + 3 * K), vR o], aq_h m s F c_11) _
        refine aq_callv (y := 2) (as2 := [vR (o + 6 + 3 * K)]) (rest := []) rfl rfl (by decide) (Nat.le_of_ble_eq_true rfl) rfl rfl (Nat.le_of_ble_eq_true rfl) (by omega) hFo rfl (Nat.le_of_ble_eq_true rfl) (qn_X0_numberOf ⟨hm, hn1, hn4, hK, hFo, hFd, hFs⟩ hdrc_11) ?_
        rintro r5 h5 ⟨rfl, rfl⟩
        show am_E _ (131, [vR o, vI l, vI (l - 11)], [vI (nu_o (c_11 (o + 6 + 3 * K)) (2 * (n : Int)) 9 0 0 (2 * (n : Int) - 1))], aq_h m s F c_11) _
        refine am_E.ret rfl rfl ?_
        refine ⟨_, rfl, sc_11, hdrc_11, Or.inr ⟨by omega, fun i h5 h6 => ?_, rfl⟩⟩
        have e5 := hz i h5 (by omega)
        rw [← hdc_11, ← hdc_10, ← hdc_9, ← hdc_8]
        simp only [aq_u, bx_ol, true_and]
        (repeat' split) <;> omega
    · refine am_E.go (t2 := (25, [vR o, vI l, vI p], [vR o], aq_h m s F c)) rfl rfl ?_
      refine aq_gf (v := vR (o + 6 + 3 * K)) rfl (by omega) hFo (by decide) rfl ?_
      show am_E _ (28, [vR o, vI l, vI p], [vR (o + 6 + 3 * K)], aq_h m s F c) _
      refine am_E.go (t2 := (29, [vR o, vI l, vI p], [vI p, vR (o + 6 + 3 * K)], aq_h m s F c)) rfl rfl ?_
      refine am_E.go (t2 := (30, [vR o, vI l, vI p], [vR o, vI p, vR (o + 6 + 3 * K)], aq_h m s F c)) rfl rfl ?_
      refine am_E.go (t2 := (31, [vR o, vI l, vI p], [vI p, vR o, vI p, vR (o + 6 + 3 * K)], aq_h m s F c)) rfl rfl ?_
      refine aq_callv (y := 2) (as2 := [vI p]) (rest := [vI p, vR (o + 6 + 3 * K)]) rfl rfl (by decide) (Nat.le_of_ble_eq_true rfl) rfl rfl (Nat.le_of_ble_eq_true rfl) (by omega) hFo rfl (Nat.le_of_ble_eq_true rfl) (qn_X0_across ⟨hm, hn1, hn4, hK, hFo, hFd, hFs⟩ (by omega) (by omega)) ?_
      rintro r5 h5 ⟨rfl, v_12, rfl, hv_12⟩
      show am_E _ (34, [vR o, vI l, vI p], [vI v_12, vI p, vR (o + 6 + 3 * K)], aq_h m s F c) _
      refine aq_as (kd := 0) rfl rfl (by omega) hFd (by omega) (by omega) rfl rfl ?_
      show am_E _ (35, [vR o, vI l, vI p], [], aq_h m s F (aq_u c (o + 6 + 3 * K) p v_12)) _
      generalize hdc_13 : aq_u c (o + 6 + 3 * K) p v_12 = c_13
      have sc_13 := aq_smu hs hdc_13 hSd
      have hdrc_13 := aq_rgu hr hdc_13 (by omega) (by omega)
      refine ae_iinc rfl rfl (am_ri (by omega) (by omega)) ?_
      show am_E _ (38, [vR o, vI l, vI (p + 1)], [], aq_h m s F c_13) _
      refine am_E.go (t2 := (16, [vR o, vI l, vI (p + 1)], [], aq_h m s F c_13)) rfl rfl ?_
      exact qn_ofLetter_l ⟨hm, hn1, hn4, hK, hFo, hFd, hFs⟩ hSd hSs d (p + 1) c_13 sc_13 (by omega) (by omega) (by omega) hdrc_13 (aq_fl hz hdc_13 (by unfold bx_ac; split <;> omega)) (by omega)

theorem qn_X0_ofLetter {m s : Nat} {F : aq_F} {c : aq_C} {S : Nat → Prop} {o n K : Nat} (hB : bx_0 m F o n K) (hSd : S (o + 6 + 3 * K)) (hSs : S (o + 7 + 3 * K)) {l : Int} (hr : aq_rg (o + 6 + 3 * K) (2 * (n : Int)) 0 (2 * (n : Int)) c) : am_E ac_X0_ofLetter (0, [vR o, vI l, vU], [], aq_h m s F c) (aq_Z m s F S c (fun r d => aq_rg (o + 6 + 3 * K) (2 * (n : Int)) 0 (2 * (n : Int)) d ∧ ((¬ (l = 0 ∨ ((1 ≤ l ∧ l < (n : Int)) ∨ (11 ≤ l ∧ l < 10 + (n : Int)))) ∧ r = some (vI (-1))) ∨ ((l = 0 ∨ ((1 ≤ l ∧ l < (n : Int)) ∨ (11 ≤ l ∧ l < 10 + (n : Int)))) ∧ (∀ i, 0 ≤ i → i < 2 * (n : Int) → d (o + 6 + 3 * K) i = bx_ol n l i) ∧ r = some (vI (nu_o (d (o + 6 + 3 * K)) (2 * (n : Int)) 9 0 0 (2 * (n : Int) - 1))))))) := by
  obtain ⟨hm, hn1, hn4, hK, hFo, hFd, hFs⟩ := hB
  refine am_E.go (t2 := (1, [vR o, vI l, vU], [vI l], aq_h m s F c)) rfl rfl ?_
  refine ae_if0 rfl (fun (q_1 : l = 0) => ?_) (fun (q_1 : l ≠ 0) => ?_)
  · refine am_E.go (t2 := (15, [vR o, vI l, vU], [vI 0], aq_h m s F c)) rfl rfl ?_
    refine am_E.go (t2 := (16, [vR o, vI l, vI 0], [], aq_h m s F c)) rfl rfl ?_
    exact qn_ofLetter_l ⟨hm, hn1, hn4, hK, hFo, hFd, hFs⟩ hSd hSs 9 0 c aq_sm0 (by omega) (by omega) (by omega) hr (fun i h1 h2 => absurd h2 (by omega)) (by omega)
  · refine am_E.go (t2 := (5, [vR o, vI l, vU], [vR o], aq_h m s F c)) rfl rfl ?_
    refine am_E.go (t2 := (6, [vR o, vI l, vU], [vI l, vR o], aq_h m s F c)) rfl rfl ?_
    refine aq_callv (y := 2) (as2 := [vI l]) (rest := []) rfl rfl (by decide) (Nat.le_of_ble_eq_true rfl) rfl rfl (Nat.le_of_ble_eq_true rfl) (by omega) hFo rfl (Nat.le_of_ble_eq_true rfl) (qn_X0_isLetter ⟨hm, hn1, hn4, hK, hFo, hFd, hFs⟩) ?_
    rintro r5 h5 ⟨rfl, v_2, rfl, hv_2⟩
    show am_E _ (9, [vR o, vI l, vU], [vI v_2], aq_h m s F c) _
    refine ae_if0 rfl (fun (q_3 : v_2 ≠ 0) => ?_) (fun (q_3 : v_2 = 0) => ?_)
    · refine am_E.go (t2 := (15, [vR o, vI l, vU], [vI 0], aq_h m s F c)) rfl rfl ?_
      refine am_E.go (t2 := (16, [vR o, vI l, vI 0], [], aq_h m s F c)) rfl rfl ?_
      exact qn_ofLetter_l ⟨hm, hn1, hn4, hK, hFo, hFd, hFs⟩ hSd hSs 9 0 c aq_sm0 (by omega) (by omega) (by omega) hr (fun i h1 h2 => absurd h2 (by omega)) (by omega)
    · refine am_E.go (t2 := (13, [vR o, vI l, vU], [vI (-1)], aq_h m s F c)) rfl rfl ?_
      refine am_E.ret rfl rfl ?_
      exact ⟨_, rfl, aq_sm0, hr, Or.inl ⟨by omega, rfl⟩⟩

theorem qn_X0_letterAt {m s : Nat} {F : aq_F} {c : aq_C} {o n K : Nat} (hB : bx_0 m F o n K) {p : Int} : am_E ac_X0_letterAt (0, [vR o, vI p], [], aq_h m s F c) (aq_P m s F c aq_vi) := by
  obtain ⟨hm, hn1, hn4, hK, hFo, hFd, hFs⟩ := hB
  refine am_E.go (t2 := (1, [vR o, vI p], [vI p], aq_h m s F c)) rfl rfl ?_
  refine am_E.go (t2 := (2, [vR o, vI p], [vR o, vI p], aq_h m s F c)) rfl rfl ?_
  refine aq_gf (v := vI (n : Int)) rfl (by omega) hFo (by decide) rfl ?_
  show am_E _ (5, [vR o, vI p], [vI (n : Int), vI p], aq_h m s F c) _
  refine am_E.go (t2 := (6, [vR o, vI p], [vI 1, vI (n : Int), vI p], aq_h m s F c)) rfl rfl ?_
  refine am_E.go (t2 := (7, [vR o, vI p], [vI (am_w ((n : Int) - 1)), vI p], aq_h m s F c)) rfl rfl ?_
  refine ae_icmp rfl (fun (q_1 : (am_w ((n : Int) - 1)) ≤ p) => ?_) (fun (q_1 : p < (am_w ((n : Int) - 1))) => ?_)
  · refine am_E.go (t2 := (17, [vR o, vI p], [vI p], aq_h m s F c)) rfl rfl ?_
    refine am_E.go (t2 := (18, [vR o, vI p], [vR o, vI p], aq_h m s F c)) rfl rfl ?_
    refine aq_gf (v := vI (n : Int)) rfl (by omega) hFo (by decide) rfl ?_
    show am_E _ (21, [vR o, vI p], [vI (n : Int), vI p], aq_h m s F c) _
    refine am_E.go (t2 := (22, [vR o, vI p], [vI 1, vI (n : Int), vI p], aq_h m s F c)) rfl rfl ?_
    refine am_E.go (t2 := (23, [vR o, vI p], [vI (am_w ((n : Int) - 1)), vI p], aq_h m s F c)) rfl rfl ?_
    refine am_E.go (t2 := (24, [vR o, vI p], [vI (am_w (p - (am_w ((n : Int) - 1))))], aq_h m s F c)) rfl rfl ?_
    refine am_E.go (t2 := (26, [vR o, vI p], [vI 11, vI (am_w (p - (am_w ((n : Int) - 1))))], aq_h m s F c)) rfl rfl ?_
    refine am_E.go (t2 := (27, [vR o, vI p], [vI (am_w ((am_w (p - (am_w ((n : Int) - 1)))) + 11))], aq_h m s F c)) rfl rfl ?_
    refine am_E.ret rfl rfl ?_
    exact ⟨rfl, _, rfl⟩
  · refine am_E.go (t2 := (11, [vR o, vI p], [vI p], aq_h m s F c)) rfl rfl ?_
    refine am_E.go (t2 := (12, [vR o, vI p], [vI 1, vI p], aq_h m s F c)) rfl rfl ?_
    refine am_E.go (t2 := (13, [vR o, vI p], [vI (am_w (p + 1))], aq_h m s F c)) rfl rfl ?_
    refine am_E.go (t2 := (27, [vR o, vI p], [vI (am_w (p + 1))], aq_h m s F c)) rfl rfl ?_
    refine am_E.ret rfl rfl ?_
    exact ⟨rfl, _, rfl⟩

theorem qn_X0_letterOf {m s : Nat} {F : aq_F} {c : aq_C} {o n K : Nat} (hB : bx_0 m F o n K) {tL : Int → Int} {tG tN : Int → Int → Int} (hT : bx_w F o n K tL tG tN) {b i : Int} (hb0 : 0 ≤ b) (hbK : b < (K : Int)) (hi : 0 ≤ i) : am_E ac_X0_letterOf (0, [vR o, vI b, vI i], [], aq_h m s F c) (aq_P m s F c aq_vi) := by
  obtain ⟨hm, hn1, hn4, hK, hFo, hFd, hFs⟩ := hB
  obtain ⟨hL, hGg, hGr, hNg, hNr, hLt, hGt, hNt⟩ := hT
  refine am_E.go (t2 := (1, [vR o, vI b, vI i], [vI i], aq_h m s F c)) rfl rfl ?_
  refine am_E.go (t2 := (2, [vR o, vI b, vI i], [vR o, vI i], aq_h m s F c)) rfl rfl ?_
  refine aq_gf (v := vR (o + 3 + K)) rfl (by omega) hFo (by decide) rfl ?_
  show am_E _ (5, [vR o, vI b, vI i], [vR (o + 3 + K), vI i], aq_h m s F c) _
  refine am_E.go (t2 := (6, [vR o, vI b, vI i], [vI b, vR (o + 3 + K), vI i], aq_h m s F c)) rfl rfl ?_
  refine aq_alt (ok := fun k => k == 0) rfl rfl (by omega) hL rfl (by omega) (by omega) ?_
  show am_E _ (7, [vR o, vI b, vI i], [vI (tL b), vI i], aq_h m s F c) _
  refine ae_icmp rfl (fun (q_1 : (tL b) ≤ i) => ?_) (fun (q_1 : i < (tL b)) => ?_)
  · refine am_E.go (t2 := (27, [vR o, vI b, vI i], [vI (-4)], aq_h m s F c)) rfl rfl ?_
    refine am_E.ret rfl rfl ?_
    exact ⟨rfl, _, rfl⟩
  · have e5 := hLt b hb0 hbK
    refine am_E.go (t2 := (11, [vR o, vI b, vI i], [vR o], aq_h m s F c)) rfl rfl ?_
    refine am_E.go (t2 := (12, [vR o, vI b, vI i], [vR o, vR o], aq_h m s F c)) rfl rfl ?_
    refine aq_gf (v := vR (o + 4 + K)) rfl (by omega) hFo (by decide) rfl ?_
    show am_E _ (15, [vR o, vI b, vI i], [vR (o + 4 + K), vR o], aq_h m s F c) _
    refine am_E.go (t2 := (16, [vR o, vI b, vI i], [vI b, vR (o + 4 + K), vR o], aq_h m s F c)) rfl rfl ?_
    refine aq_al (ok := fun k => decide (3 ≤ k) && decide (k < 7)) (v := vR (o + 5 + K + b.toNat)) rfl rfl (by omega) hGg rfl (by omega) (by omega) rfl ?_
    show am_E _ (17, [vR o, vI b, vI i], [vR (o + 5 + K + b.toNat), vR o], aq_h m s F c) _
    refine am_E.go (t2 := (18, [vR o, vI b, vI i], [vI i, vR (o + 5 + K + b.toNat), vR o], aq_h m s F c)) rfl rfl ?_
    refine aq_alt (ok := fun k => k == 0) rfl rfl (by omega) (hGr _ (by omega)) rfl (by omega) (by omega) ?_
    show am_E _ (19, [vR o, vI b, vI i], [vI (tG ((b.toNat : Nat) : Int) i), vR o], aq_h m s F c) _
    refine aq_callv (y := 2) (as2 := [vI (tG ((b.toNat : Nat) : Int) i)]) (rest := []) rfl rfl (by decide) (Nat.le_of_ble_eq_true rfl) rfl rfl (Nat.le_of_ble_eq_true rfl) (by omega) hFo rfl (Nat.le_of_ble_eq_true rfl) (qn_X0_letterAt ⟨hm, hn1, hn4, hK, hFo, hFd, hFs⟩) ?_
    rintro r5 h5 ⟨rfl, v_2, rfl⟩
    show am_E _ (22, [vR o, vI b, vI i], [vI v_2], aq_h m s F c) _
    refine am_E.go (t2 := (27, [vR o, vI b, vI i], [vI v_2], aq_h m s F c)) rfl rfl ?_
    refine am_E.ret rfl rfl ?_
    exact ⟨rfl, _, rfl⟩

theorem qn_stackOn_l {m s : Nat} {F : aq_F} {c : aq_C} {o n K : Nat} (hB : bx_0 m F o n K) {tL : Int → Int} {tG tN : Int → Int → Int} (hT : bx_w F o n K tL tG tN) {x y : Int} (hy0 : 0 ≤ y) (hyK : y < (K : Int)) : ∀ (d : Nat) (t : Int) (a : Int) (i : Int) (v6 : am_V) (h0 : 0 ≤ i) (h1 : i ≤ tL y) (h2 : 0 ≤ t) (h3 : t < (K : Int)) (h4 : 0 ≤ a) (h5 : a ≤ 5000 * i) (h6 : a % 1000 = 0) (hd : tL y - i < (d : Int)), am_E ac_X0_stackOn (8, [vR o, vI x, vI y, vI t, vI a, vI i, v6], [], aq_h m s F c) (aq_P m s F c (fun r => ∃ v, r = some (vI v) ∧ (0 ≤ v ∧ v < 31000 ∧ v % 1000 < (K : Int))))
  | 0, t, a, i, v6, h0, h1, h2, h3, h4, h5, h6, hd => by exfalso; omega
  | d + 1, t, a, i, v6, h0, h1, h2, h3, h4, h5, h6, hd => by
    obtain ⟨hm, hn1, hn4, hK, hFo, hFd, hFs⟩ := hB
    obtain ⟨hL, hGg, hGr, hNg, hNr, hLt, hGt, hNt⟩ := hT
    have e5 := hLt y hy0 hyK
    refine am_E.go (t2 := (10, [vR o, vI x, vI y, vI t, vI a, vI i, v6], [vI i], aq_h m s F c)) rfl rfl ?_
    refine am_E.go (t2 := (11, [vR o, vI x, vI y, vI t, vI a, vI i, v6], [vR o, vI i], aq_h m s F c)) rfl rfl ?_
    refine aq_gf (v := vR (o + 3 + K)) rfl (by omega) hFo (by decide) rfl ?_
    show am_E _ (14, [vR o, vI x, vI y, vI t, vI a, vI i, v6], [vR (o + 3 + K), vI i], aq_h m s F c) _
    refine am_E.go (t2 := (15, [vR o, vI x, vI y, vI t, vI a, vI i, v6], [vI y, vR (o + 3 + K), vI i], aq_h m s F c)) rfl rfl ?_
    refine aq_alt (ok := fun k => k == 0) rfl rfl (by omega) hL rfl (by omega) (by omega) ?_
    show am_E _ (16, [vR o, vI x, vI y, vI t, vI a, vI i, v6], [vI (tL y), vI i], aq_h m s F c) _
    refine ae_icmp rfl (fun (q_1 : (tL y) ≤ i) => ?_) (fun (q_1 : i < (tL y)) => ?_)
    · refine am_E.go (t2 := (60, [vR o, vI x, vI y, vI t, vI a, vI i, v6], [vI t], aq_h m s F c)) rfl rfl ?_
      refine am_E.go (t2 := (62, [vR o, vI x, vI y, vI t, vI a, vI i, v6], [vI a, vI t], aq_h m s F c)) rfl rfl ?_
      refine ae_add rfl (am_ri (by omega) (by omega)) ?_
      show am_E _ (63, [vR o, vI x, vI y, vI t, vI a, vI i, v6], [vI (t + a)], aq_h m s F c) _
      refine am_E.ret rfl rfl ?_
      exact ⟨rfl, _, rfl, by omega⟩
    · have e6 := hGt ((y.toNat : Nat) : Int) i (by omega) (by omega) h0 (by rw [Int.toNat_of_nonneg hy0]; omega)
      have e7 := hNt ((t.toNat : Nat) : Int) (tG ((y.toNat : Nat) : Int) i) (by omega) (by omega) (by omega) (by omega)
      refine am_E.go (t2 := (20, [vR o, vI x, vI y, vI t, vI a, vI i, v6], [vR o], aq_h m s F c)) rfl rfl ?_
      refine aq_gf (v := vR (o + 5 + 2 * K)) rfl (by omega) hFo (by decide) rfl ?_
      show am_E _ (23, [vR o, vI x, vI y, vI t, vI a, vI i, v6], [vR (o + 5 + 2 * K)], aq_h m s F c) _
      refine am_E.go (t2 := (24, [vR o, vI x, vI y, vI t, vI a, vI i, v6], [vI t, vR (o + 5 + 2 * K)], aq_h m s F c)) rfl rfl ?_
      refine aq_al (ok := fun k => decide (3 ≤ k) && decide (k < 7)) (v := vR (o + 6 + 2 * K + t.toNat)) rfl rfl (by omega) hNg rfl (by omega) (by omega) rfl ?_
      show am_E _ (25, [vR o, vI x, vI y, vI t, vI a, vI i, v6], [vR (o + 6 + 2 * K + t.toNat)], aq_h m s F c) _
      refine am_E.go (t2 := (26, [vR o, vI x, vI y, vI t, vI a, vI i, v6], [vR o, vR (o + 6 + 2 * K + t.toNat)], aq_h m s F c)) rfl rfl ?_
      refine aq_gf (v := vR (o + 4 + K)) rfl (by omega) hFo (by decide) rfl ?_
      show am_E _ (29, [vR o, vI x, vI y, vI t, vI a, vI i, v6], [vR (o + 4 + K), vR (o + 6 + 2 * K + t.toNat)], aq_h m s F c) _
      refine am_E.go (t2 := (30, [vR o, vI x, vI y, vI t, vI a, vI i, v6], [vI y, vR (o + 4 + K), vR (o + 6 + 2 * K + t.toNat)], aq_h m s F c)) rfl rfl ?_
      refine aq_al (ok := fun k => decide (3 ≤ k) && decide (k < 7)) (v := vR (o + 5 + K + y.toNat)) rfl rfl (by omega) hGg rfl (by omega) (by omega) rfl ?_
      show am_E _ (31, [vR o, vI x, vI y, vI t, vI a, vI i, v6], [vR (o + 5 + K + y.toNat), vR (o + 6 + 2 * K + t.toNat)], aq_h m s F c) _
      refine am_E.go (t2 := (33, [vR o, vI x, vI y, vI t, vI a, vI i, v6], [vI i, vR (o + 5 + K + y.toNat), vR (o + 6 + 2 * K + t.toNat)], aq_h m s F c)) rfl rfl ?_
      refine aq_alt (ok := fun k => k == 0) rfl rfl (by omega) (hGr _ (by omega)) rfl (by omega) (by omega) ?_
      show am_E _ (34, [vR o, vI x, vI y, vI t, vI a, vI i, v6], [vI (tG ((y.toNat : Nat) : Int) i), vR (o + 6 + 2 * K + t.toNat)], aq_h m s F c) _
      refine aq_alt (ok := fun k => k == 0) rfl rfl (by omega) (hNr _ (by omega)) rfl (by omega) (by omega) ?_
      show am_E _ (35, [vR o, vI x, vI y, vI t, vI a, vI i, v6], [vI (tN ((t.toNat : Nat) : Int) (tG ((y.toNat : Nat) : Int) i))], aq_h m s F c) _
      refine am_E.go (t2 := (37, [vR o, vI x, vI y, vI t, vI a, vI i, vI (tN ((t.toNat : Nat) : Int) (tG ((y.toNat : Nat) : Int) i))], [], aq_h m s F c)) rfl rfl ?_
      refine am_E.go (t2 := (39, [vR o, vI x, vI y, vI t, vI a, vI i, vI (tN ((t.toNat : Nat) : Int) (tG ((y.toNat : Nat) : Int) i))], [vI (tN ((t.toNat : Nat) : Int) (tG ((y.toNat : Nat) : Int) i))], aq_h m s F c)) rfl rfl ?_
      refine am_E.go (t2 := (42, [vR o, vI x, vI y, vI t, vI a, vI i, vI (tN ((t.toNat : Nat) : Int) (tG ((y.toNat : Nat) : Int) i))], [vI 1000, vI (tN ((t.toNat : Nat) : Int) (tG ((y.toNat : Nat) : Int) i))], aq_h m s F c)) rfl rfl ?_
      refine ae_bin (z := (tN ((t.toNat : Nat) : Int) (tG ((y.toNat : Nat) : Int) i)) % 1000) rfl rfl (am_rem_e (by omega) (by decide)) ?_
      show am_E _ (43, [vR o, vI x, vI y, vI t, vI a, vI i, vI (tN ((t.toNat : Nat) : Int) (tG ((y.toNat : Nat) : Int) i))], [vI ((tN ((t.toNat : Nat) : Int) (tG ((y.toNat : Nat) : Int) i)) % 1000)], aq_h m s F c) _
      refine am_E.go (t2 := (44, [vR o, vI x, vI y, vI ((tN ((t.toNat : Nat) : Int) (tG ((y.toNat : Nat) : Int) i)) % 1000), vI a, vI i, vI (tN ((t.toNat : Nat) : Int) (tG ((y.toNat : Nat) : Int) i))], [], aq_h m s F c)) rfl rfl ?_
      refine am_E.go (t2 := (46, [vR o, vI x, vI y, vI ((tN ((t.toNat : Nat) : Int) (tG ((y.toNat : Nat) : Int) i)) % 1000), vI a, vI i, vI (tN ((t.toNat : Nat) : Int) (tG ((y.toNat : Nat) : Int) i))], [vI a], aq_h m s F c)) rfl rfl ?_
      refine am_E.go (t2 := (48, [vR o, vI x, vI y, vI ((tN ((t.toNat : Nat) : Int) (tG ((y.toNat : Nat) : Int) i)) % 1000), vI a, vI i, vI (tN ((t.toNat : Nat) : Int) (tG ((y.toNat : Nat) : Int) i))], [vI (tN ((t.toNat : Nat) : Int) (tG ((y.toNat : Nat) : Int) i)), vI a], aq_h m s F c)) rfl rfl ?_
      refine am_E.go (t2 := (49, [vR o, vI x, vI y, vI ((tN ((t.toNat : Nat) : Int) (tG ((y.toNat : Nat) : Int) i)) % 1000), vI a, vI i, vI (tN ((t.toNat : Nat) : Int) (tG ((y.toNat : Nat) : Int) i))], [vI ((tN ((t.toNat : Nat) : Int) (tG ((y.toNat : Nat) : Int) i)) % 1000), vI (tN ((t.toNat : Nat) : Int) (tG ((y.toNat : Nat) : Int) i)), vI a], aq_h m s F c)) rfl rfl ?_
      refine ae_sub rfl (am_ri (by omega) (by omega)) ?_
      show am_E _ (50, [vR o, vI x, vI y, vI ((tN ((t.toNat : Nat) : Int) (tG ((y.toNat : Nat) : Int) i)) % 1000), vI a, vI i, vI (tN ((t.toNat : Nat) : Int) (tG ((y.toNat : Nat) : Int) i))], [vI ((tN ((t.toNat : Nat) : Int) (tG ((y.toNat : Nat) : Int) i)) - ((tN ((t.toNat : Nat) : Int) (tG ((y.toNat : Nat) : Int) i)) % 1000)), vI a], aq_h m s F c) _
      refine ae_add rfl (am_ri (by omega) (by omega)) ?_
      show am_E _ (51, [vR o, vI x, vI y, vI ((tN ((t.toNat : Nat) : Int) (tG ((y.toNat : Nat) : Int) i)) % 1000), vI a, vI i, vI (tN ((t.toNat : Nat) : Int) (tG ((y.toNat : Nat) : Int) i))], [vI (a + ((tN ((t.toNat : Nat) : Int) (tG ((y.toNat : Nat) : Int) i)) - ((tN ((t.toNat : Nat) : Int) (tG ((y.toNat : Nat) : Int) i)) % 1000)))], aq_h m s F c) _
      refine am_E.go (t2 := (53, [vR o, vI x, vI y, vI ((tN ((t.toNat : Nat) : Int) (tG ((y.toNat : Nat) : Int) i)) % 1000), vI (a + ((tN ((t.toNat : Nat) : Int) (tG ((y.toNat : Nat) : Int) i)) - ((tN ((t.toNat : Nat) : Int) (tG ((y.toNat : Nat) : Int) i)) % 1000))), vI i, vI (tN ((t.toNat : Nat) : Int) (tG ((y.toNat : Nat) : Int) i))], [], aq_h m s F c)) rfl rfl ?_
      refine ae_iinc rfl rfl (am_ri (by omega) (by omega)) ?_
      show am_E _ (56, [vR o, vI x, vI y, vI ((tN ((t.toNat : Nat) : Int) (tG ((y.toNat : Nat) : Int) i)) % 1000), vI (a + ((tN ((t.toNat : Nat) : Int) (tG ((y.toNat : Nat) : Int) i)) - ((tN ((t.toNat : Nat) : Int) (tG ((y.toNat : Nat) : Int) i)) % 1000))), vI (i + 1), vI (tN ((t.toNat : Nat) : Int) (tG ((y.toNat : Nat) : Int) i))], [], aq_h m s F c) _
      refine am_E.go (t2 := (8, [vR o, vI x, vI y, vI ((tN ((t.toNat : Nat) : Int) (tG ((y.toNat : Nat) : Int) i)) % 1000), vI (a + ((tN ((t.toNat : Nat) : Int) (tG ((y.toNat : Nat) : Int) i)) - ((tN ((t.toNat : Nat) : Int) (tG ((y.toNat : Nat) : Int) i)) % 1000))), vI (i + 1), vI (tN ((t.toNat : Nat) : Int) (tG ((y.toNat : Nat) : Int) i))], [], aq_h m s F c)) rfl rfl ?_
      exact qn_stackOn_l ⟨hm, hn1, hn4, hK, hFo, hFd, hFs⟩ ⟨hL, hGg, hGr, hNg, hNr, hLt, hGt, hNt⟩ hy0 hyK d ((tN ((t.toNat : Nat) : Int) (tG ((y.toNat : Nat) : Int) i)) % 1000) (a + ((tN ((t.toNat : Nat) : Int) (tG ((y.toNat : Nat) : Int) i)) - ((tN ((t.toNat : Nat) : Int) (tG ((y.toNat : Nat) : Int) i)) % 1000))) (i + 1) (vI (tN ((t.toNat : Nat) : Int) (tG ((y.toNat : Nat) : Int) i))) (by omega) (by omega) (by omega) (by omega) (by omega) (by omega) (by omega) (by omega)

theorem qn_X0_stackOn {m s : Nat} {F : aq_F} {c : aq_C} {o n K : Nat} (hB : bx_0 m F o n K) {tL : Int → Int} {tG tN : Int → Int → Int} (hT : bx_w F o n K tL tG tN) {x y : Int} (hy0 : 0 ≤ y) (hyK : y < (K : Int)) (hx0 : 0 ≤ x) (hxK : x < (K : Int)) : am_E ac_X0_stackOn (0, [vR o, vI x, vI y, vU, vU, vU, vU], [], aq_h m s F c) (aq_P m s F c (fun r => ∃ v, r = some (vI v) ∧ (0 ≤ v ∧ v < 31000 ∧ v % 1000 < (K : Int)))) := by
  obtain ⟨hm, hn1, hn4, hK, hFo, hFd, hFs⟩ := hB
  obtain ⟨hL, hGg, hGr, hNg, hNr, hLt, hGt, hNt⟩ := hT
  have e5 := hLt y hy0 hyK
  refine am_E.go (t2 := (1, [vR o, vI x, vI y, vU, vU, vU, vU], [vI x], aq_h m s F c)) rfl rfl ?_
  refine am_E.go (t2 := (2, [vR o, vI x, vI y, vI x, vU, vU, vU], [], aq_h m s F c)) rfl rfl ?_
  refine am_E.go (t2 := (3, [vR o, vI x, vI y, vI x, vU, vU, vU], [vI 0], aq_h m s F c)) rfl rfl ?_
  refine am_E.go (t2 := (5, [vR o, vI x, vI y, vI x, vI 0, vU, vU], [], aq_h m s F c)) rfl rfl ?_
  refine am_E.go (t2 := (6, [vR o, vI x, vI y, vI x, vI 0, vU, vU], [vI 0], aq_h m s F c)) rfl rfl ?_
  refine am_E.go (t2 := (8, [vR o, vI x, vI y, vI x, vI 0, vI 0, vU], [], aq_h m s F c)) rfl rfl ?_
  exact qn_stackOn_l ⟨hm, hn1, hn4, hK, hFo, hFd, hFs⟩ ⟨hL, hGg, hGr, hNg, hNr, hLt, hGt, hNt⟩ hy0 hyK 7 x 0 0 (vU) (by omega) (by omega) (by omega) (by omega) (by omega) (by omega) (by omega) (by omega)

theorem qn_ofPairs_l {m s : Nat} {F : aq_F} {c0 : aq_C} {S : Nat → Prop} {o n K : Nat} (hB : bx_0 m F o n K) (hSd : S (o + 6 + 3 * K)) (hSs : S (o + 7 + 3 * K)) {w : Int} : ∀ (d : Nat) (k : Int) (v4 : am_V) (v5 : am_V) (c : aq_C) (hs : aq_sm S c0 c) (h0 : 0 ≤ k) (h1 : k ≤ (n : Int)) (hr : aq_rg (o + 6 + 3 * K) (2 * (n : Int)) 0 (2 * (n : Int)) c) (hd : (n : Int) - k < (d : Int)), am_E ac_X0_ofPairs (22, [vR o, vL w, vU, vI k, v4, v5], [], aq_h m s F c) (aq_Z m s F S c0 (fun r d => aq_vi r ∧ aq_rg (o + 6 + 3 * K) (2 * (n : Int)) 0 (2 * (n : Int)) d))
  | 0, k, v4, v5, c, hs, h0, h1, hr, hd => by exfalso; omega
  | d + 1, k, v4, v5, c, hs, h0, h1, hr, hd => by
    obtain ⟨hm, hn1, hn4, hK, hFo, hFd, hFs⟩ := hB
    refine am_E.go (t2 := (23, [vR o, vL w, vU, vI k, v4, v5], [vI k], aq_h m s F c)) rfl rfl ?_
    refine am_E.go (t2 := (24, [vR o, vL w, vU, vI k, v4, v5], [vR o, vI k], aq_h m s F c)) rfl rfl ?_
    refine aq_gf (v := vI (n : Int)) rfl (by omega) hFo (by decide) rfl ?_
    show am_E _ (27, [vR o, vL w, vU, vI k, v4, v5], [vI (n : Int), vI k], aq_h m s F c) _
    refine ae_icmp rfl (fun (q_1 : (n : Int) ≤ k) => ?_) (fun (q_1 : k < (n : Int)) => ?_)
    · refine am_E.go (t2 := (137, [vR o, vL w, vU, vI k, v4, v5], [vR o], aq_h m s F c)) rfl rfl ?_
      refine am_E.go (t2 := (138, [vR o, vL w, vU, vI k, v4, v5], [vR o, vR o], aq_h m s F c)) rfl rfl ?_
      refine aq_gf (v := vR (o + 6 + 3 * K)) rfl (by omega) hFo (by decide) rfl ?_
      show am_E _ (141, [vR o, vL w, vU, vI k, v4, v5], [vR (o + 6 + 3 * K), vR o], aq_h m s F c) _
      refine aq_callv (y := 2) (as2 := [vR (o + 6 + 3 * K)]) (rest := []) rfl rfl (by decide) (Nat.le_of_ble_eq_true rfl) rfl rfl (Nat.le_of_ble_eq_true rfl) (by omega) hFo rfl (Nat.le_of_ble_eq_true rfl) (qn_X0_numberOf ⟨hm, hn1, hn4, hK, hFo, hFd, hFs⟩ hr) ?_
      rintro r5 h5 ⟨rfl, rfl⟩
      show am_E _ (144, [vR o, vL w, vU, vI k, v4, v5], [vI (nu_o (c (o + 6 + 3 * K)) (2 * (n : Int)) 9 0 0 (2 * (n : Int) - 1))], aq_h m s F c) _
      refine am_E.ret rfl rfl ?_
      exact ⟨_, rfl, hs, ⟨_, rfl⟩, hr⟩
    · refine am_E.go (t2 := (31, [vR o, vL w, vU, vI k, v4, v5], [vL w], aq_h m s F c)) rfl rfl ?_
      refine am_E.go (t2 := (33, [vR o, vL w, vU, vI k, v4, v5], [vI 8, vL w], aq_h m s F c)) rfl rfl ?_
      refine am_E.go (t2 := (34, [vR o, vL w, vU, vI k, v4, v5], [vI k, vI 8, vL w], aq_h m s F c)) rfl rfl ?_
      refine ae_mul rfl (am_ri (by omega) (by omega)) ?_
      show am_E _ (35, [vR o, vL w, vU, vI k, v4, v5], [vI (8 * k), vL w], aq_h m s F c) _
      refine am_E.go (t2 := (36, [vR o, vL w, vU, vI k, v4, v5], [vL (am_ushL w (8 * k))], aq_h m s F c)) rfl rfl ?_
      refine am_E.go (t2 := (37, [vR o, vL w, vU, vI k, v4, v5], [vI (am_w (am_ushL w (8 * k)))], aq_h m s F c)) rfl rfl ?_
      refine am_E.go (t2 := (39, [vR o, vL w, vU, vI k, v4, v5], [vI 15, vI (am_w (am_ushL w (8 * k)))], aq_h m s F c)) rfl rfl ?_
      have ew1 := am_and15 (am_w (am_ushL w (8 * k)))
      refine ae_bin (z := am_and (am_w (am_ushL w (8 * k))) 15) rfl rfl rfl ?_
      generalize am_and (am_w (am_ushL w (8 * k))) 15 = w1 at ew1 ⊢
      refine am_E.go (t2 := (42, [vR o, vL w, vU, vI k, vI w1, v5], [], aq_h m s F c)) rfl rfl ?_
      refine am_E.go (t2 := (43, [vR o, vL w, vU, vI k, vI w1, v5], [vL w], aq_h m s F c)) rfl rfl ?_
      refine am_E.go (t2 := (45, [vR o, vL w, vU, vI k, vI w1, v5], [vI 8, vL w], aq_h m s F c)) rfl rfl ?_
      refine am_E.go (t2 := (46, [vR o, vL w, vU, vI k, vI w1, v5], [vI k, vI 8, vL w], aq_h m s F c)) rfl rfl ?_
      refine ae_mul rfl (am_ri (by omega) (by omega)) ?_
      show am_E _ (47, [vR o, vL w, vU, vI k, vI w1, v5], [vI (8 * k), vL w], aq_h m s F c) _
      refine am_E.go (t2 := (48, [vR o, vL w, vU, vI k, vI w1, v5], [vI 4, vI (8 * k), vL w], aq_h m s F c)) rfl rfl ?_
      refine ae_add rfl (am_ri (by omega) (by omega)) ?_
      show am_E _ (49, [vR o, vL w, vU, vI k, vI w1, v5], [vI ((8 * k) + 4), vL w], aq_h m s F c) _
      refine am_E.go (t2 := (50, [vR o, vL w, vU, vI k, vI w1, v5], [vL (am_ushL w ((8 * k) + 4))], aq_h m s F c)) rfl rfl ?_
      refine am_E.go (t2 := (51, [vR o, vL w, vU, vI k, vI w1, v5], [vI (am_w (am_ushL w ((8 * k) + 4)))], aq_h m s F c)) rfl rfl ?_
      refine am_E.go (t2 := (53, [vR o, vL w, vU, vI k, vI w1, v5], [vI 15, vI (am_w (am_ushL w ((8 * k) + 4)))], aq_h m s F c)) rfl rfl ?_
      have ew2 := am_and15 (am_w (am_ushL w ((8 * k) + 4)))
      refine ae_bin (z := am_and (am_w (am_ushL w ((8 * k) + 4))) 15) rfl rfl rfl ?_
      generalize am_and (am_w (am_ushL w ((8 * k) + 4))) 15 = w2 at ew2 ⊢
      refine am_E.go (t2 := (56, [vR o, vL w, vU, vI k, vI w1, vI w2], [], aq_h m s F c)) rfl rfl ?_
      refine am_E.go (t2 := (58, [vR o, vL w, vU, vI k, vI w1, vI w2], [vI w1], aq_h m s F c)) rfl rfl ?_
      refine am_E.go (t2 := (59, [vR o, vL w, vU, vI k, vI w1, vI w2], [vR o, vI w1], aq_h m s F c)) rfl rfl ?_
      refine aq_gf (v := vI (2 * (n : Int))) rfl (by omega) hFo (by decide) rfl ?_
      show am_E _ (62, [vR o, vL w, vU, vI k, vI w1, vI w2], [vI (2 * (n : Int)), vI w1], aq_h m s F c) _
      refine ae_icmp rfl (fun (q_2 : (2 * (n : Int)) ≤ w1) => ?_) (fun (q_2 : w1 < (2 * (n : Int))) => ?_)
      · refine am_E.go (t2 := (102, [vR o, vL w, vU, vI k, vI w1, vI w2], [vI (-1)], aq_h m s F c)) rfl rfl ?_
        refine am_E.ret rfl rfl ?_
        exact ⟨_, rfl, hs, ⟨_, rfl⟩, hr⟩
      · refine am_E.go (t2 := (67, [vR o, vL w, vU, vI k, vI w1, vI w2], [vI w2], aq_h m s F c)) rfl rfl ?_
        refine am_E.go (t2 := (68, [vR o, vL w, vU, vI k, vI w1, vI w2], [vR o, vI w2], aq_h m s F c)) rfl rfl ?_
        refine aq_gf (v := vI (2 * (n : Int))) rfl (by omega) hFo (by decide) rfl ?_
        show am_E _ (71, [vR o, vL w, vU, vI k, vI w1, vI w2], [vI (2 * (n : Int)), vI w2], aq_h m s F c) _
        refine ae_icmp rfl (fun (q_3 : (2 * (n : Int)) ≤ w2) => ?_) (fun (q_3 : w2 < (2 * (n : Int))) => ?_)
        · refine am_E.go (t2 := (102, [vR o, vL w, vU, vI k, vI w1, vI w2], [vI (-1)], aq_h m s F c)) rfl rfl ?_
          refine am_E.ret rfl rfl ?_
          exact ⟨_, rfl, hs, ⟨_, rfl⟩, hr⟩
        · refine am_E.go (t2 := (76, [vR o, vL w, vU, vI k, vI w1, vI w2], [vI w1], aq_h m s F c)) rfl rfl ?_
          refine am_E.go (t2 := (78, [vR o, vL w, vU, vI k, vI w1, vI w2], [vI w2, vI w1], aq_h m s F c)) rfl rfl ?_
          refine ae_icmp rfl (fun (q_4 : w1 = w2) => ?_) (fun (q_4 : w1 ≠ w2) => ?_)
          · refine am_E.go (t2 := (102, [vR o, vL w, vU, vI k, vI w1, vI w2], [vI (-1)], aq_h m s F c)) rfl rfl ?_
            refine am_E.ret rfl rfl ?_
            exact ⟨_, rfl, hs, ⟨_, rfl⟩, hr⟩
          · refine am_E.go (t2 := (82, [vR o, vL w, vU, vI k, vI w1, vI w2], [vR o], aq_h m s F c)) rfl rfl ?_
            refine aq_gf (v := vR (o + 7 + 3 * K)) rfl (by omega) hFo (by decide) rfl ?_
            show am_E _ (85, [vR o, vL w, vU, vI k, vI w1, vI w2], [vR (o + 7 + 3 * K)], aq_h m s F c) _
            refine am_E.go (t2 := (87, [vR o, vL w, vU, vI k, vI w1, vI w2], [vI w1, vR (o + 7 + 3 * K)], aq_h m s F c)) rfl rfl ?_
            refine aq_al (ok := fun k => k == 1) (v := vI (c (o + 7 + 3 * K) w1)) rfl rfl (by omega) hFs rfl (by omega) (by omega) rfl ?_
            show am_E _ (88, [vR o, vL w, vU, vI k, vI w1, vI w2], [vI (c (o + 7 + 3 * K) w1)], aq_h m s F c) _
            refine ae_if0 rfl (fun (q_5 : (c (o + 7 + 3 * K) w1) ≠ 0) => ?_) (fun (q_5 : (c (o + 7 + 3 * K) w1) = 0) => ?_)
            · refine am_E.go (t2 := (102, [vR o, vL w, vU, vI k, vI w1, vI w2], [vI (-1)], aq_h m s F c)) rfl rfl ?_
              refine am_E.ret rfl rfl ?_
              exact ⟨_, rfl, hs, ⟨_, rfl⟩, hr⟩
            · refine am_E.go (t2 := (92, [vR o, vL w, vU, vI k, vI w1, vI w2], [vR o], aq_h m s F c)) rfl rfl ?_
              refine aq_gf (v := vR (o + 7 + 3 * K)) rfl (by omega) hFo (by decide) rfl ?_
              show am_E _ (95, [vR o, vL w, vU, vI k, vI w1, vI w2], [vR (o + 7 + 3 * K)], aq_h m s F c) _
              refine am_E.go (t2 := (97, [vR o, vL w, vU, vI k, vI w1, vI w2], [vI w2, vR (o + 7 + 3 * K)], aq_h m s F c)) rfl rfl ?_
              refine aq_al (ok := fun k => k == 1) (v := vI (c (o + 7 + 3 * K) w2)) rfl rfl (by omega) hFs rfl (by omega) (by omega) rfl ?_
              show am_E _ (98, [vR o, vL w, vU, vI k, vI w1, vI w2], [vI (c (o + 7 + 3 * K) w2)], aq_h m s F c) _
              refine ae_if0 rfl (fun (q_6 : (c (o + 7 + 3 * K) w2) = 0) => ?_) (fun (q_6 : (c (o + 7 + 3 * K) w2) ≠ 0) => ?_)
              · refine am_E.go (t2 := (104, [vR o, vL w, vU, vI k, vI w1, vI w2], [vR o], aq_h m s F c)) rfl rfl ?_
                refine aq_gf (v := vR (o + 7 + 3 * K)) rfl (by omega) hFo (by decide) rfl ?_
                show am_E _ (107, [vR o, vL w, vU, vI k, vI w1, vI w2], [vR (o + 7 + 3 * K)], aq_h m s F c) _
                refine am_E.go (t2 := (109, [vR o, vL w, vU, vI k, vI w1, vI w2], [vI w1, vR (o + 7 + 3 * K)], aq_h m s F c)) rfl rfl ?_
                refine am_E.go (t2 := (110, [vR o, vL w, vU, vI k, vI w1, vI w2], [vI 1, vI w1, vR (o + 7 + 3 * K)], aq_h m s F c)) rfl rfl ?_
                refine aq_as (kd := 1) rfl rfl (by omega) hFs (by omega) (by omega) rfl rfl ?_
                show am_E _ (111, [vR o, vL w, vU, vI k, vI w1, vI w2], [], aq_h m s F (aq_u c (o + 7 + 3 * K) w1 1)) _
                generalize hdc_7 : aq_u c (o + 7 + 3 * K) w1 1 = c_7
                have sc_7 := aq_smu hs hdc_7 hSs
                have hdrc_7 := aq_rgn hr hdc_7 (by omega)
                refine am_E.go (t2 := (112, [vR o, vL w, vU, vI k, vI w1, vI w2], [vR o], aq_h m s F c_7)) rfl rfl ?_
                refine aq_gf (v := vR (o + 7 + 3 * K)) rfl (by omega) hFo (by decide) rfl ?_
                show am_E _ (115, [vR o, vL w, vU, vI k, vI w1, vI w2], [vR (o + 7 + 3 * K)], aq_h m s F c_7) _
                refine am_E.go (t2 := (117, [vR o, vL w, vU, vI k, vI w1, vI w2], [vI w2, vR (o + 7 + 3 * K)], aq_h m s F c_7)) rfl rfl ?_
                refine am_E.go (t2 := (118, [vR o, vL w, vU, vI k, vI w1, vI w2], [vI 1, vI w2, vR (o + 7 + 3 * K)], aq_h m s F c_7)) rfl rfl ?_
                refine aq_as (kd := 1) rfl rfl (by omega) hFs (by omega) (by omega) rfl rfl ?_
                show am_E _ (119, [vR o, vL w, vU, vI k, vI w1, vI w2], [], aq_h m s F (aq_u c_7 (o + 7 + 3 * K) w2 1)) _
                generalize hdc_8 : aq_u c_7 (o + 7 + 3 * K) w2 1 = c_8
                have sc_8 := aq_smu sc_7 hdc_8 hSs
                have hdrc_8 := aq_rgn hdrc_7 hdc_8 (by omega)
                refine am_E.go (t2 := (120, [vR o, vL w, vU, vI k, vI w1, vI w2], [vR o], aq_h m s F c_8)) rfl rfl ?_
                refine aq_gf (v := vR (o + 6 + 3 * K)) rfl (by omega) hFo (by decide) rfl ?_
                show am_E _ (123, [vR o, vL w, vU, vI k, vI w1, vI w2], [vR (o + 6 + 3 * K)], aq_h m s F c_8) _
                refine am_E.go (t2 := (125, [vR o, vL w, vU, vI k, vI w1, vI w2], [vI w1, vR (o + 6 + 3 * K)], aq_h m s F c_8)) rfl rfl ?_
                refine am_E.go (t2 := (127, [vR o, vL w, vU, vI k, vI w1, vI w2], [vI w2, vI w1, vR (o + 6 + 3 * K)], aq_h m s F c_8)) rfl rfl ?_
                refine am_E.call rfl rfl rfl (Nat.le_of_ble_eq_true rfl) (qn_X0_pair (by omega) hFd (by omega) (by omega) (by omega) (by omega)) ?_
                rintro r5 h5 ⟨rfl, rfl⟩
                show am_E _ (130, [vR o, vL w, vU, vI k, vI w1, vI w2], [], aq_h m s F (aq_u (aq_u c_8 (o + 6 + 3 * K) w1 w2) (o + 6 + 3 * K) w2 w1)) _
                generalize hdc_9 : aq_u c_8 (o + 6 + 3 * K) w1 w2 = c_9
                have sc_9 := aq_smu sc_8 hdc_9 hSd
                have hdrc_9 := aq_rgu hdrc_8 hdc_9 (by omega) (by omega)
                generalize hdc_10 : aq_u c_9 (o + 6 + 3 * K) w2 w1 = c_10
                have sc_10 := aq_smu sc_9 hdc_10 hSd
                have hdrc_10 := aq_rgu hdrc_9 hdc_10 (by omega) (by omega)
                refine ae_iinc rfl rfl (am_ri (by omega) (by omega)) ?_
                show am_E _ (133, [vR o, vL w, vU, vI (k + 1), vI w1, vI w2], [], aq_h m s F c_10) _
                refine am_E.go (t2 := (22, [vR o, vL w, vU, vI (k + 1), vI w1, vI w2], [], aq_h m s F c_10)) rfl rfl ?_
                exact qn_ofPairs_l ⟨hm, hn1, hn4, hK, hFo, hFd, hFs⟩ hSd hSs d (k + 1) (vI w1) (vI w2) c_10 sc_10 (by omega) (by omega) hdrc_10 (by omega)
              · refine am_E.go (t2 := (102, [vR o, vL w, vU, vI k, vI w1, vI w2], [vI (-1)], aq_h m s F c)) rfl rfl ?_
                refine am_E.ret rfl rfl ?_
                exact ⟨_, rfl, hs, ⟨_, rfl⟩, hr⟩

theorem qn_X0_ofPairs {m s : Nat} {F : aq_F} {c : aq_C} {S : Nat → Prop} {o n K : Nat} (hB : bx_0 m F o n K) (hSd : S (o + 6 + 3 * K)) (hSs : S (o + 7 + 3 * K)) {w : Int} (hr : aq_rg (o + 6 + 3 * K) (2 * (n : Int)) 0 (2 * (n : Int)) c) : am_E ac_X0_ofPairs (0, [vR o, vL w, vU, vU, vU, vU], [], aq_h m s F c) (aq_Z m s F S c (fun r d => aq_vi r ∧ aq_rg (o + 6 + 3 * K) (2 * (n : Int)) 0 (2 * (n : Int)) d)) := by
  obtain ⟨hm, hn1, hn4, hK, hFo, hFd, hFs⟩ := hB
  refine am_E.go (t2 := (1, [vR o, vL w, vU, vU, vU, vU], [vL w], aq_h m s F c)) rfl rfl ?_
  refine am_E.go (t2 := (3, [vR o, vL w, vU, vU, vU, vU], [vI 8, vL w], aq_h m s F c)) rfl rfl ?_
  refine am_E.go (t2 := (4, [vR o, vL w, vU, vU, vU, vU], [vR o, vI 8, vL w], aq_h m s F c)) rfl rfl ?_
  refine aq_gf (v := vI (n : Int)) rfl (by omega) hFo (by decide) rfl ?_
  show am_E _ (7, [vR o, vL w, vU, vU, vU, vU], [vI (n : Int), vI 8, vL w], aq_h m s F c) _
  refine ae_mul rfl (am_ri (by omega) (by omega)) ?_
  show am_E _ (8, [vR o, vL w, vU, vU, vU, vU], [vI (8 * (n : Int)), vL w], aq_h m s F c) _
  refine am_E.go (t2 := (9, [vR o, vL w, vU, vU, vU, vU], [vL (am_ushL w (8 * (n : Int)))], aq_h m s F c)) rfl rfl ?_
  refine am_E.go (t2 := (10, [vR o, vL w, vU, vU, vU, vU], [vL 0, vL (am_ushL w (8 * (n : Int)))], aq_h m s F c)) rfl rfl ?_
  refine am_E.go (t2 := (11, [vR o, vL w, vU, vU, vU, vU], [vI (if (am_ushL w (8 * (n : Int))) < 0 then -1 else if (am_ushL w (8 * (n : Int))) = 0 then 0 else 1)], aq_h m s F c)) rfl rfl ?_
  refine ae_if0 rfl (fun (q_1 : (if (am_ushL w (8 * (n : Int))) < 0 then -1 else if (am_ushL w (8 * (n : Int))) = 0 then 0 else 1) = 0) => ?_) (fun (q_1 : (if (am_ushL w (8 * (n : Int))) < 0 then -1 else if (am_ushL w (8 * (n : Int))) = 0 then 0 else 1) ≠ 0) => ?_)
  · refine am_E.go (t2 := (17, [vR o, vL w, vU, vU, vU, vU], [vR o], aq_h m s F c)) rfl rfl ?_
    refine aq_callv (y := 1) (as2 := []) (rest := []) rfl rfl (by decide) (Nat.le_of_ble_eq_true rfl) rfl rfl (Nat.le_of_ble_eq_true rfl) (by omega) hFo rfl (Nat.le_of_ble_eq_true rfl) (qn_X0_forgetSeen ⟨hm, hn1, hn4, hK, hFo, hFd, hFs⟩) ?_
    rintro r5 h5 ⟨c_2, rfl, sc_2, rfl, hzc_2⟩
    show am_E _ (20, [vR o, vL w, vU, vU, vU, vU], [], aq_h m s F c_2) _
    refine am_E.go (t2 := (21, [vR o, vL w, vU, vU, vU, vU], [vI 0], aq_h m s F c_2)) rfl rfl ?_
    refine am_E.go (t2 := (22, [vR o, vL w, vU, vI 0, vU, vU], [], aq_h m s F c_2)) rfl rfl ?_
    exact qn_ofPairs_l ⟨hm, hn1, hn4, hK, hFo, hFd, hFs⟩ hSd hSs 9 0 (vU) (vU) c_2 (aq_smt aq_sm0 (aq_smi sc_2 (fun a h => by rw [h]; exact hSs))) (by omega) (by omega) (aq_rgs hr sc_2 (by omega)) (by omega)
  · refine am_E.go (t2 := (15, [vR o, vL w, vU, vU, vU, vU], [vI (-1)], aq_h m s F c)) rfl rfl ?_
    refine am_E.ret rfl rfl ?_
    exact ⟨_, rfl, aq_sm0, ⟨_, rfl⟩, hr⟩
end
section
/-! The shape of an object of Halves with n strands and z halves, at o. -/
def hv_t (o n z : Nat) : Nat → aq_T := fun y => match y with
  | 0 => .inr (vI (n : Int))
  | 1 => .inr (vR (o + 9))
  | 2 => .inr (vR (o + 1))
  | 3 => .inr (vR (o + 2))
  | 4 => .inr (vR (o + 16))
  | 5 => .inr (vR (o + 17))
  | 6 => .inr (vI (z : Int))
  | _ => .inl 0
def hv_0 (m : Nat) (F : aq_F) (o n z : Nat) (tl : Int → Int) (th : Int → Int → Int) : Prop := o + 18 ≤ m ∧ 1 ≤ n ∧ n ≤ 4 ∧ z ≤ 6 ∧ F o = (12, 7, hv_t o n z) ∧ F (o + 1) = (0, 6, fun j => .inr (vI (tl (j : Int)))) ∧ F (o + 2) = (3, 6, fun j => .inr (vR (o + 3 + j))) ∧ (∀ j, j < 6 → F (o + 3 + j) = (0, 6, fun _ => .inl 0)) ∧ F (o + 9) = (3, 6, fun j => .inr (vR (o + 10 + j))) ∧ (∀ h, h < 6 → F (o + 10 + h) = (0, n, fun j => .inr (vI (th (h : Int) (j : Int))))) ∧ F (o + 16) = (0, n, fun _ => .inl 0) ∧ F (o + 17) = (1, n, fun _ => .inl 0) ∧ ∀ h p : Int, 0 ≤ h → h < 6 → 0 ≤ p → p < (n : Int) → 0 ≤ th h p ∧ th h p ≤ (n : Int)
theorem rn_J9_floorMod {a b : Int} (hb : b ≠ 0) (h : am_H) : am_E ac_J9_floorMod_7cf53 (0, [vI a, vI b, vU], [], h) (fun r h2 => h2 = h ∧ aq_vi r) := by
  refine am_E.go (t2 := (1, [vI a, vI b, vU], [vI a], h)) rfl rfl ?_
  refine am_E.go (t2 := (2, [vI a, vI b, vU], [vI b, vI a], h)) rfl rfl ?_
  refine ae_bin (z := a.tmod b) rfl rfl (am_rem_s hb) ?_
  generalize a.tmod b = v
  refine am_E.go (t2 := (4, [vI a, vI b, vI v], [], h)) rfl rfl ?_
  refine am_E.go (t2 := (5, [vI a, vI b, vI v], [vI a], h)) rfl rfl ?_
  refine am_E.go (t2 := (6, [vI a, vI b, vI v], [vI b, vI a], h)) rfl rfl ?_
  refine am_E.go (t2 := (7, [vI a, vI b, vI v], [vI (am_xor a b)], h)) rfl rfl ?_
  refine ae_if0 rfl (fun _ => ?_) (fun _ => ?_)
  · refine am_E.go (t2 := (19, [vI a, vI b, vI v], [vI v], h)) rfl rfl ?_
    exact am_E.ret rfl rfl ⟨rfl, _, rfl⟩
  · refine am_E.go (t2 := (11, [vI a, vI b, vI v], [vI v], h)) rfl rfl ?_
    refine ae_if0 rfl (fun _ => ?_) (fun _ => ?_)
    · refine am_E.go (t2 := (19, [vI a, vI b, vI v], [vI v], h)) rfl rfl ?_
      exact am_E.ret rfl rfl ⟨rfl, _, rfl⟩
    · refine am_E.go (t2 := (15, [vI a, vI b, vI v], [vI v], h)) rfl rfl ?_
      refine am_E.go (t2 := (16, [vI a, vI b, vI v], [vI b, vI v], h)) rfl rfl ?_
      refine am_E.go (t2 := (17, [vI a, vI b, vI v], [vI (am_w (v + b))], h)) rfl rfl ?_
      exact am_E.ret rfl rfl ⟨rfl, _, rfl⟩
end
section
/-! Halves: methods that a public call runs. Printed by wip/p20/sx/gHV.py. -/

theorem qn_countLeaving_l {m s : Nat} {F : aq_F} {c : aq_C} {o n z : Nat} {tl : Int → Int} {th : Int → Int → Int} (hH : hv_0 m F o n z tl th) {t : Int} : ∀ (d : Nat) (x : Int) (h : Int) (h0 : 0 ≤ h) (h1 : h ≤ (z : Int)) (hd : (z : Int) - h < (d : Int)), am_E ac_X2_countLeaving (4, [vR o, vI t, vI x, vI h], [], aq_h m s F c) (aq_P m s F c aq_vi)
  | 0, x, h, h0, h1, hd => by exfalso; omega
  | d + 1, x, h, h0, h1, hd => by
    obtain ⟨hm, hn1, hn4, hz6, hFo, hFl, hFg, hFt, hFp, hFq, hFd, hFs, hht⟩ := hH
    refine am_E.go (t2 := (5, [vR o, vI t, vI x, vI h], [vI h], aq_h m s F c)) rfl rfl ?_
    refine am_E.go (t2 := (6, [vR o, vI t, vI x, vI h], [vR o, vI h], aq_h m s F c)) rfl rfl ?_
    refine aq_gf (v := vI (z : Int)) rfl (by omega) hFo (by decide) rfl ?_
    show am_E _ (9, [vR o, vI t, vI x, vI h], [vI (z : Int), vI h], aq_h m s F c) _
    refine ae_icmp rfl (fun (q_1 : (z : Int) ≤ h) => ?_) (fun (q_1 : h < (z : Int)) => ?_)
    · refine am_E.go (t2 := (37, [vR o, vI t, vI x, vI h], [vI x], aq_h m s F c)) rfl rfl ?_
      refine am_E.ret rfl rfl ?_
      exact ⟨rfl, _, rfl⟩
    · refine am_E.go (t2 := (13, [vR o, vI t, vI x, vI h], [vI x], aq_h m s F c)) rfl rfl ?_
      refine am_E.go (t2 := (14, [vR o, vI t, vI x, vI h], [vR o, vI x], aq_h m s F c)) rfl rfl ?_
      refine aq_gf (v := vR (o + 1)) rfl (by omega) hFo (by decide) rfl ?_
      show am_E _ (17, [vR o, vI t, vI x, vI h], [vR (o + 1), vI x], aq_h m s F c) _
      refine am_E.go (t2 := (18, [vR o, vI t, vI x, vI h], [vI h, vR (o + 1), vI x], aq_h m s F c)) rfl rfl ?_
      refine aq_alt (ok := fun k => k == 0) rfl rfl (by omega) hFl rfl (by omega) (by omega) ?_
      show am_E _ (19, [vR o, vI t, vI x, vI h], [vI (tl h), vI x], aq_h m s F c) _
      refine am_E.go (t2 := (20, [vR o, vI t, vI x, vI h], [vI t, vI (tl h), vI x], aq_h m s F c)) rfl rfl ?_
      refine ae_icmp rfl (fun (q_2 : (tl h) ≠ t) => ?_) (fun (q_2 : (tl h) = t) => ?_)
      · refine am_E.go (t2 := (28, [vR o, vI t, vI x, vI h], [vI 0, vI x], aq_h m s F c)) rfl rfl ?_
        refine am_E.go (t2 := (29, [vR o, vI t, vI x, vI h], [vI (am_w (x + 0))], aq_h m s F c)) rfl rfl ?_
        refine am_E.go (t2 := (30, [vR o, vI t, vI (am_w (x + 0)), vI h], [], aq_h m s F c)) rfl rfl ?_
        refine ae_iinc rfl rfl (am_ri (by omega) (by omega)) ?_
        show am_E _ (33, [vR o, vI t, vI (am_w (x + 0)), vI (h + 1)], [], aq_h m s F c) _
        refine am_E.go (t2 := (4, [vR o, vI t, vI (am_w (x + 0)), vI (h + 1)], [], aq_h m s F c)) rfl rfl ?_
        exact qn_countLeaving_l ⟨hm, hn1, hn4, hz6, hFo, hFl, hFg, hFt, hFp, hFq, hFd, hFs, hht⟩ d (am_w (x + 0)) (h + 1) (by omega) (by omega) (by omega)
      · refine am_E.go (t2 := (24, [vR o, vI t, vI x, vI h], [vI 1, vI x], aq_h m s F c)) rfl rfl ?_
        refine am_E.go (t2 := (28, [vR o, vI t, vI x, vI h], [vI 1, vI x], aq_h m s F c)) rfl rfl ?_
        refine am_E.go (t2 := (29, [vR o, vI t, vI x, vI h], [vI (am_w (x + 1))], aq_h m s F c)) rfl rfl ?_
        refine am_E.go (t2 := (30, [vR o, vI t, vI (am_w (x + 1)), vI h], [], aq_h m s F c)) rfl rfl ?_
        refine ae_iinc rfl rfl (am_ri (by omega) (by omega)) ?_
        show am_E _ (33, [vR o, vI t, vI (am_w (x + 1)), vI (h + 1)], [], aq_h m s F c) _
        refine am_E.go (t2 := (4, [vR o, vI t, vI (am_w (x + 1)), vI (h + 1)], [], aq_h m s F c)) rfl rfl ?_
        exact qn_countLeaving_l ⟨hm, hn1, hn4, hz6, hFo, hFl, hFg, hFt, hFp, hFq, hFd, hFs, hht⟩ d (am_w (x + 1)) (h + 1) (by omega) (by omega) (by omega)

theorem qn_X2_countLeaving {m s : Nat} {F : aq_F} {c : aq_C} {o n z : Nat} {tl : Int → Int} {th : Int → Int → Int} (hH : hv_0 m F o n z tl th) {t : Int} : am_E ac_X2_countLeaving (0, [vR o, vI t, vU, vU], [], aq_h m s F c) (aq_P m s F c aq_vi) := by
  obtain ⟨hm, hn1, hn4, hz6, hFo, hFl, hFg, hFt, hFp, hFq, hFd, hFs, hht⟩ := hH
  refine am_E.go (t2 := (1, [vR o, vI t, vU, vU], [vI 0], aq_h m s F c)) rfl rfl ?_
  refine am_E.go (t2 := (2, [vR o, vI t, vI 0, vU], [], aq_h m s F c)) rfl rfl ?_
  refine am_E.go (t2 := (3, [vR o, vI t, vI 0, vU], [vI 0], aq_h m s F c)) rfl rfl ?_
  refine am_E.go (t2 := (4, [vR o, vI t, vI 0, vI 0], [], aq_h m s F c)) rfl rfl ?_
  exact qn_countLeaving_l ⟨hm, hn1, hn4, hz6, hFo, hFl, hFg, hFt, hFp, hFq, hFd, hFs, hht⟩ 7 0 0 (by omega) (by omega) (by omega)

theorem qn_find_l {m s : Nat} {F : aq_F} {c : aq_C} {o n z : Nat} {tl : Int → Int} {th : Int → Int → Int} (hH : hv_0 m F o n z tl th) {t i : Int} : ∀ (d : Nat) (x : Int) (h : Int) (h0 : 0 ≤ h) (h1 : h ≤ (z : Int)) (hd : (z : Int) - h < (d : Int)), am_E ac_X2_find (5, [vR o, vI t, vI i, vI x, vI h], [], aq_h m s F c) (aq_P m s F c (fun r => ∃ v, r = some (vI v) ∧ (-1 ≤ v ∧ v < (z : Int))))
  | 0, x, h, h0, h1, hd => by exfalso; omega
  | d + 1, x, h, h0, h1, hd => by
    obtain ⟨hm, hn1, hn4, hz6, hFo, hFl, hFg, hFt, hFp, hFq, hFd, hFs, hht⟩ := hH
    refine am_E.go (t2 := (7, [vR o, vI t, vI i, vI x, vI h], [vI h], aq_h m s F c)) rfl rfl ?_
    refine am_E.go (t2 := (8, [vR o, vI t, vI i, vI x, vI h], [vR o, vI h], aq_h m s F c)) rfl rfl ?_
    refine aq_gf (v := vI (z : Int)) rfl (by omega) hFo (by decide) rfl ?_
    show am_E _ (11, [vR o, vI t, vI i, vI x, vI h], [vI (z : Int), vI h], aq_h m s F c) _
    refine ae_icmp rfl (fun (q_1 : (z : Int) ≤ h) => ?_) (fun (q_1 : h < (z : Int)) => ?_)
    · refine am_E.go (t2 := (43, [vR o, vI t, vI i, vI x, vI h], [vI (-1)], aq_h m s F c)) rfl rfl ?_
      refine am_E.ret rfl rfl ?_
      exact ⟨rfl, _, rfl, by omega⟩
    · refine am_E.go (t2 := (15, [vR o, vI t, vI i, vI x, vI h], [vR o], aq_h m s F c)) rfl rfl ?_
      refine aq_gf (v := vR (o + 1)) rfl (by omega) hFo (by decide) rfl ?_
      show am_E _ (18, [vR o, vI t, vI i, vI x, vI h], [vR (o + 1)], aq_h m s F c) _
      refine am_E.go (t2 := (20, [vR o, vI t, vI i, vI x, vI h], [vI h, vR (o + 1)], aq_h m s F c)) rfl rfl ?_
      refine aq_alt (ok := fun k => k == 0) rfl rfl (by omega) hFl rfl (by omega) (by omega) ?_
      show am_E _ (21, [vR o, vI t, vI i, vI x, vI h], [vI (tl h)], aq_h m s F c) _
      refine am_E.go (t2 := (22, [vR o, vI t, vI i, vI x, vI h], [vI t, vI (tl h)], aq_h m s F c)) rfl rfl ?_
      refine ae_icmp rfl (fun (q_2 : (tl h) ≠ t) => ?_) (fun (q_2 : (tl h) = t) => ?_)
      · refine ae_iinc rfl rfl (am_ri (by omega) (by omega)) ?_
        show am_E _ (39, [vR o, vI t, vI i, vI x, vI (h + 1)], [], aq_h m s F c) _
        refine am_E.go (t2 := (5, [vR o, vI t, vI i, vI x, vI (h + 1)], [], aq_h m s F c)) rfl rfl ?_
        exact qn_find_l ⟨hm, hn1, hn4, hz6, hFo, hFl, hFg, hFt, hFp, hFq, hFd, hFs, hht⟩ d x (h + 1) (by omega) (by omega) (by omega)
      · refine am_E.go (t2 := (26, [vR o, vI t, vI i, vI x, vI h], [vI x], aq_h m s F c)) rfl rfl ?_
        refine am_E.go (t2 := (27, [vR o, vI t, vI i, vI x, vI h], [vI i, vI x], aq_h m s F c)) rfl rfl ?_
        refine ae_icmp rfl (fun (q_3 : x ≠ i) => ?_) (fun (q_3 : x = i) => ?_)
        · refine am_E.go (t2 := (36, [vR o, vI t, vI i, vI (am_w (x + 1)), vI h], [], aq_h m s F c)) rfl rfl ?_
          refine ae_iinc rfl rfl (am_ri (by omega) (by omega)) ?_
          show am_E _ (39, [vR o, vI t, vI i, vI (am_w (x + 1)), vI (h + 1)], [], aq_h m s F c) _
          refine am_E.go (t2 := (5, [vR o, vI t, vI i, vI (am_w (x + 1)), vI (h + 1)], [], aq_h m s F c)) rfl rfl ?_
          exact qn_find_l ⟨hm, hn1, hn4, hz6, hFo, hFl, hFg, hFt, hFp, hFq, hFd, hFs, hht⟩ d (am_w (x + 1)) (h + 1) (by omega) (by omega) (by omega)
        · refine am_E.go (t2 := (32, [vR o, vI t, vI i, vI x, vI h], [vI h], aq_h m s F c)) rfl rfl ?_
          refine am_E.ret rfl rfl ?_
          exact ⟨rfl, _, rfl, by omega⟩

theorem qn_X2_find {m s : Nat} {F : aq_F} {c : aq_C} {o n z : Nat} {tl : Int → Int} {th : Int → Int → Int} (hH : hv_0 m F o n z tl th) {t i : Int} : am_E ac_X2_find (0, [vR o, vI t, vI i, vU, vU], [], aq_h m s F c) (aq_P m s F c (fun r => ∃ v, r = some (vI v) ∧ (-1 ≤ v ∧ v < (z : Int)))) := by
  obtain ⟨hm, hn1, hn4, hz6, hFo, hFl, hFg, hFt, hFp, hFq, hFd, hFs, hht⟩ := hH
  refine am_E.go (t2 := (1, [vR o, vI t, vI i, vU, vU], [vI 0], aq_h m s F c)) rfl rfl ?_
  refine am_E.go (t2 := (2, [vR o, vI t, vI i, vI 0, vU], [], aq_h m s F c)) rfl rfl ?_
  refine am_E.go (t2 := (3, [vR o, vI t, vI i, vI 0, vU], [vI 0], aq_h m s F c)) rfl rfl ?_
  refine am_E.go (t2 := (5, [vR o, vI t, vI i, vI 0, vI 0], [], aq_h m s F c)) rfl rfl ?_
  exact qn_find_l ⟨hm, hn1, hn4, hz6, hFo, hFl, hFg, hFt, hFp, hFq, hFd, hFs, hht⟩ 7 0 0 (by omega) (by omega) (by omega)

theorem qn_leadsOut_l {m s : Nat} {F : aq_F} {c0 : aq_C} {S : Nat → Prop} {o n z : Nat} {tl : Int → Int} {th : Int → Int → Int} (hH : hv_0 m F o n z tl th) (hSs : S (o + 17)) (hSt : ∀ j, j < 6 → S (o + 3 + j)) {x y : Int} (hx0 : 0 ≤ x) (hx6 : x < 6) (hy0 : 0 ≤ y) (hy6 : y < 6) {p : Int} : ∀ (d : Nat) (a : Int) (k : Int) (v6 : am_V) (c : aq_C) (hs : aq_sm S c0 c) (h0 : 0 ≤ a) (h1 : a < (n : Int)) (h2 : 0 ≤ k) (h3 : k ≤ (n : Int)) (hd : (n : Int) - k < (d : Int)), am_E ac_X2_leadsOut (6, [vR o, vR (o + 10 + x.toNat), vR (o + 10 + y.toNat), vI p, vI a, vI k, v6], [], aq_h m s F c) (aq_Z m s F S c0 (fun r _ => aq_vb r))
  | 0, a, k, v6, c, hs, h0, h1, h2, h3, hd => by exfalso; omega
  | d + 1, a, k, v6, c, hs, h0, h1, h2, h3, hd => by
    obtain ⟨hm, hn1, hn4, hz6, hFo, hFl, hFg, hFt, hFp, hFq, hFd, hFs, hht⟩ := hH
    refine am_E.go (t2 := (8, [vR o, vR (o + 10 + x.toNat), vR (o + 10 + y.toNat), vI p, vI a, vI k, v6], [vI k], aq_h m s F c)) rfl rfl ?_
    refine am_E.go (t2 := (9, [vR o, vR (o + 10 + x.toNat), vR (o + 10 + y.toNat), vI p, vI a, vI k, v6], [vR o, vI k], aq_h m s F c)) rfl rfl ?_
    refine aq_gf (v := vI (n : Int)) rfl (by omega) hFo (by decide) rfl ?_
    show am_E _ (12, [vR o, vR (o + 10 + x.toNat), vR (o + 10 + y.toNat), vI p, vI a, vI k, v6], [vI (n : Int), vI k], aq_h m s F c) _
    refine ae_icmp rfl (fun (q_1 : (n : Int) ≤ k) => ?_) (fun (q_1 : k < (n : Int)) => ?_)
    · refine am_E.go (t2 := (72, [vR o, vR (o + 10 + x.toNat), vR (o + 10 + y.toNat), vI p, vI a, vI k, v6], [vI 0], aq_h m s F c)) rfl rfl ?_
      refine am_E.ret rfl rfl ?_
      exact ⟨_, rfl, hs, _, rfl, by omega⟩
    · refine am_E.go (t2 := (16, [vR o, vR (o + 10 + x.toNat), vR (o + 10 + y.toNat), vI p, vI a, vI k, v6], [vR o], aq_h m s F c)) rfl rfl ?_
      refine aq_gf (v := vR (o + 17)) rfl (by omega) hFo (by decide) rfl ?_
      show am_E _ (19, [vR o, vR (o + 10 + x.toNat), vR (o + 10 + y.toNat), vI p, vI a, vI k, v6], [vR (o + 17)], aq_h m s F c) _
      refine am_E.go (t2 := (21, [vR o, vR (o + 10 + x.toNat), vR (o + 10 + y.toNat), vI p, vI a, vI k, v6], [vI a, vR (o + 17)], aq_h m s F c)) rfl rfl ?_
      refine am_E.go (t2 := (22, [vR o, vR (o + 10 + x.toNat), vR (o + 10 + y.toNat), vI p, vI a, vI k, v6], [vI 1, vI a, vR (o + 17)], aq_h m s F c)) rfl rfl ?_
      refine aq_as (kd := 1) rfl rfl (by omega) hFs (by omega) (by omega) rfl rfl ?_
      show am_E _ (23, [vR o, vR (o + 10 + x.toNat), vR (o + 10 + y.toNat), vI p, vI a, vI k, v6], [], aq_h m s F (aq_u c (o + 17) a 1)) _
      generalize hdc_2 : aq_u c (o + 17) a 1 = c_2
      have sc_2 := aq_smu hs hdc_2 hSs
      refine am_E.go (t2 := (24, [vR o, vR (o + 10 + x.toNat), vR (o + 10 + y.toNat), vI p, vI a, vI k, v6], [vR (o + 10 + y.toNat)], aq_h m s F c_2)) rfl rfl ?_
      refine am_E.go (t2 := (26, [vR o, vR (o + 10 + x.toNat), vR (o + 10 + y.toNat), vI p, vI a, vI k, v6], [vI a, vR (o + 10 + y.toNat)], aq_h m s F c_2)) rfl rfl ?_
      refine aq_alt (ok := fun k => k == 0) rfl rfl (by omega) (hFq _ (by omega)) rfl (by omega) (by omega) ?_
      show am_E _ (27, [vR o, vR (o + 10 + x.toNat), vR (o + 10 + y.toNat), vI p, vI a, vI k, v6], [vI (th ((y.toNat : Nat) : Int) a)], aq_h m s F c_2) _
      have f_3 := hht ((y.toNat : Nat) : Int) a (by omega) (by omega) (by omega) (by omega)
      refine am_E.go (t2 := (29, [vR o, vR (o + 10 + x.toNat), vR (o + 10 + y.toNat), vI p, vI a, vI k, vI (th ((y.toNat : Nat) : Int) a)], [], aq_h m s F c_2)) rfl rfl ?_
      refine am_E.go (t2 := (31, [vR o, vR (o + 10 + x.toNat), vR (o + 10 + y.toNat), vI p, vI a, vI k, vI (th ((y.toNat : Nat) : Int) a)], [vI (th ((y.toNat : Nat) : Int) a)], aq_h m s F c_2)) rfl rfl ?_
      refine am_E.go (t2 := (32, [vR o, vR (o + 10 + x.toNat), vR (o + 10 + y.toNat), vI p, vI a, vI k, vI (th ((y.toNat : Nat) : Int) a)], [vR o, vI (th ((y.toNat : Nat) : Int) a)], aq_h m s F c_2)) rfl rfl ?_
      refine aq_gf (v := vI (n : Int)) rfl (by omega) hFo (by decide) rfl ?_
      show am_E _ (35, [vR o, vR (o + 10 + x.toNat), vR (o + 10 + y.toNat), vI p, vI a, vI k, vI (th ((y.toNat : Nat) : Int) a)], [vI (n : Int), vI (th ((y.toNat : Nat) : Int) a)], aq_h m s F c_2) _
      refine ae_icmp rfl (fun (q_4 : (th ((y.toNat : Nat) : Int) a) ≠ (n : Int)) => ?_) (fun (q_4 : (th ((y.toNat : Nat) : Int) a) = (n : Int)) => ?_)
      · refine am_E.go (t2 := (41, [vR o, vR (o + 10 + x.toNat), vR (o + 10 + y.toNat), vI p, vI a, vI k, vI (th ((y.toNat : Nat) : Int) a)], [vR o], aq_h m s F c_2)) rfl rfl ?_
        refine aq_gf (v := vR (o + 17)) rfl (by omega) hFo (by decide) rfl ?_
        show am_E _ (44, [vR o, vR (o + 10 + x.toNat), vR (o + 10 + y.toNat), vI p, vI a, vI k, vI (th ((y.toNat : Nat) : Int) a)], [vR (o + 17)], aq_h m s F c_2) _
        refine am_E.go (t2 := (46, [vR o, vR (o + 10 + x.toNat), vR (o + 10 + y.toNat), vI p, vI a, vI k, vI (th ((y.toNat : Nat) : Int) a)], [vI (th ((y.toNat : Nat) : Int) a), vR (o + 17)], aq_h m s F c_2)) rfl rfl ?_
        refine am_E.go (t2 := (47, [vR o, vR (o + 10 + x.toNat), vR (o + 10 + y.toNat), vI p, vI a, vI k, vI (th ((y.toNat : Nat) : Int) a)], [vI 1, vI (th ((y.toNat : Nat) : Int) a), vR (o + 17)], aq_h m s F c_2)) rfl rfl ?_
        refine aq_as (kd := 1) rfl rfl (by omega) hFs (by omega) (by omega) rfl rfl ?_
        show am_E _ (48, [vR o, vR (o + 10 + x.toNat), vR (o + 10 + y.toNat), vI p, vI a, vI k, vI (th ((y.toNat : Nat) : Int) a)], [], aq_h m s F (aq_u c_2 (o + 17) (th ((y.toNat : Nat) : Int) a) 1)) _
        generalize hdc_5 : aq_u c_2 (o + 17) (th ((y.toNat : Nat) : Int) a) 1 = c_5
        have sc_5 := aq_smu sc_2 hdc_5 hSs
        refine am_E.go (t2 := (49, [vR o, vR (o + 10 + x.toNat), vR (o + 10 + y.toNat), vI p, vI a, vI k, vI (th ((y.toNat : Nat) : Int) a)], [vR (o + 10 + x.toNat)], aq_h m s F c_5)) rfl rfl ?_
        refine am_E.go (t2 := (51, [vR o, vR (o + 10 + x.toNat), vR (o + 10 + y.toNat), vI p, vI a, vI k, vI (th ((y.toNat : Nat) : Int) a)], [vI (th ((y.toNat : Nat) : Int) a), vR (o + 10 + x.toNat)], aq_h m s F c_5)) rfl rfl ?_
        refine aq_alt (ok := fun k => k == 0) rfl rfl (by omega) (hFq _ (by omega)) rfl (by omega) (by omega) ?_
        show am_E _ (52, [vR o, vR (o + 10 + x.toNat), vR (o + 10 + y.toNat), vI p, vI a, vI k, vI (th ((y.toNat : Nat) : Int) a)], [vI (th ((x.toNat : Nat) : Int) (th ((y.toNat : Nat) : Int) a))], aq_h m s F c_5) _
        have f_6 := hht ((x.toNat : Nat) : Int) (th ((y.toNat : Nat) : Int) a) (by omega) (by omega) (by omega) (by omega)
        refine am_E.go (t2 := (54, [vR o, vR (o + 10 + x.toNat), vR (o + 10 + y.toNat), vI p, vI (th ((x.toNat : Nat) : Int) (th ((y.toNat : Nat) : Int) a)), vI k, vI (th ((y.toNat : Nat) : Int) a)], [], aq_h m s F c_5)) rfl rfl ?_
        refine am_E.go (t2 := (56, [vR o, vR (o + 10 + x.toNat), vR (o + 10 + y.toNat), vI p, vI (th ((x.toNat : Nat) : Int) (th ((y.toNat : Nat) : Int) a)), vI k, vI (th ((y.toNat : Nat) : Int) a)], [vI (th ((x.toNat : Nat) : Int) (th ((y.toNat : Nat) : Int) a))], aq_h m s F c_5)) rfl rfl ?_
        refine am_E.go (t2 := (57, [vR o, vR (o + 10 + x.toNat), vR (o + 10 + y.toNat), vI p, vI (th ((x.toNat : Nat) : Int) (th ((y.toNat : Nat) : Int) a)), vI k, vI (th ((y.toNat : Nat) : Int) a)], [vR o, vI (th ((x.toNat : Nat) : Int) (th ((y.toNat : Nat) : Int) a))], aq_h m s F c_5)) rfl rfl ?_
        refine aq_gf (v := vI (n : Int)) rfl (by omega) hFo (by decide) rfl ?_
        show am_E _ (60, [vR o, vR (o + 10 + x.toNat), vR (o + 10 + y.toNat), vI p, vI (th ((x.toNat : Nat) : Int) (th ((y.toNat : Nat) : Int) a)), vI k, vI (th ((y.toNat : Nat) : Int) a)], [vI (n : Int), vI (th ((x.toNat : Nat) : Int) (th ((y.toNat : Nat) : Int) a))], aq_h m s F c_5) _
        refine ae_icmp rfl (fun (q_7 : (th ((x.toNat : Nat) : Int) (th ((y.toNat : Nat) : Int) a)) ≠ (n : Int)) => ?_) (fun (q_7 : (th ((x.toNat : Nat) : Int) (th ((y.toNat : Nat) : Int) a)) = (n : Int)) => ?_)
        · refine ae_iinc rfl rfl (am_ri (by omega) (by omega)) ?_
          show am_E _ (68, [vR o, vR (o + 10 + x.toNat), vR (o + 10 + y.toNat), vI p, vI (th ((x.toNat : Nat) : Int) (th ((y.toNat : Nat) : Int) a)), vI (k + 1), vI (th ((y.toNat : Nat) : Int) a)], [], aq_h m s F c_5) _
          refine am_E.go (t2 := (6, [vR o, vR (o + 10 + x.toNat), vR (o + 10 + y.toNat), vI p, vI (th ((x.toNat : Nat) : Int) (th ((y.toNat : Nat) : Int) a)), vI (k + 1), vI (th ((y.toNat : Nat) : Int) a)], [], aq_h m s F c_5)) rfl rfl ?_
          exact qn_leadsOut_l ⟨hm, hn1, hn4, hz6, hFo, hFl, hFg, hFt, hFp, hFq, hFd, hFs, hht⟩ hSs hSt hx0 hx6 hy0 hy6 d (th ((x.toNat : Nat) : Int) (th ((y.toNat : Nat) : Int) a)) (k + 1) (vI (th ((y.toNat : Nat) : Int) a)) c_5 sc_5 (by omega) (by omega) (by omega) (by omega) (by omega)
        · refine am_E.go (t2 := (64, [vR o, vR (o + 10 + x.toNat), vR (o + 10 + y.toNat), vI p, vI (th ((x.toNat : Nat) : Int) (th ((y.toNat : Nat) : Int) a)), vI k, vI (th ((y.toNat : Nat) : Int) a)], [vI 0], aq_h m s F c_5)) rfl rfl ?_
          refine am_E.ret rfl rfl ?_
          exact ⟨_, rfl, sc_5, _, rfl, by omega⟩
      · refine am_E.go (t2 := (39, [vR o, vR (o + 10 + x.toNat), vR (o + 10 + y.toNat), vI p, vI a, vI k, vI (th ((y.toNat : Nat) : Int) a)], [vI 1], aq_h m s F c_2)) rfl rfl ?_
        refine am_E.ret rfl rfl ?_
        exact ⟨_, rfl, sc_2, _, rfl, by omega⟩

theorem qn_X2_leadsOut {m s : Nat} {F : aq_F} {c : aq_C} {S : Nat → Prop} {o n z : Nat} {tl : Int → Int} {th : Int → Int → Int} (hH : hv_0 m F o n z tl th) (hSs : S (o + 17)) (hSt : ∀ j, j < 6 → S (o + 3 + j)) {x y : Int} (hx0 : 0 ≤ x) (hx6 : x < 6) (hy0 : 0 ≤ y) (hy6 : y < 6) {p : Int} (hp0 : 0 ≤ p) (hpn : p < (n : Int)) : am_E ac_X2_leadsOut (0, [vR o, vR (o + 10 + x.toNat), vR (o + 10 + y.toNat), vI p, vU, vU, vU], [], aq_h m s F c) (aq_Z m s F S c (fun r _ => aq_vb r)) := by
  obtain ⟨hm, hn1, hn4, hz6, hFo, hFl, hFg, hFt, hFp, hFq, hFd, hFs, hht⟩ := hH
  refine am_E.go (t2 := (1, [vR o, vR (o + 10 + x.toNat), vR (o + 10 + y.toNat), vI p, vU, vU, vU], [vI p], aq_h m s F c)) rfl rfl ?_
  refine am_E.go (t2 := (3, [vR o, vR (o + 10 + x.toNat), vR (o + 10 + y.toNat), vI p, vI p, vU, vU], [], aq_h m s F c)) rfl rfl ?_
  refine am_E.go (t2 := (4, [vR o, vR (o + 10 + x.toNat), vR (o + 10 + y.toNat), vI p, vI p, vU, vU], [vI 0], aq_h m s F c)) rfl rfl ?_
  refine am_E.go (t2 := (6, [vR o, vR (o + 10 + x.toNat), vR (o + 10 + y.toNat), vI p, vI p, vI 0, vU], [], aq_h m s F c)) rfl rfl ?_
  exact qn_leadsOut_l ⟨hm, hn1, hn4, hz6, hFo, hFl, hFg, hFt, hFp, hFq, hFd, hFs, hht⟩ hSs hSt hx0 hx6 hy0 hy6 7 p 0 (vU) c aq_sm0 (by omega) (by omega) (by omega) (by omega) (by omega)

theorem qn_goRound_l {m s : Nat} {F : aq_F} {c0 : aq_C} {S : Nat → Prop} {o n z : Nat} {tl : Int → Int} {th : Int → Int → Int} (hH : hv_0 m F o n z tl th) (hSs : S (o + 17)) (hSt : ∀ j, j < 6 → S (o + 3 + j)) {x y : Int} (hx0 : 0 ≤ x) (hx6 : x < 6) (hy0 : 0 ≤ y) (hy6 : y < 6) {p : Int} : ∀ (d : Nat) (a : Int) (k : Int) (v6 : am_V) (c : aq_C) (hs : aq_sm S c0 c) (h0 : 0 ≤ a) (h1 : a ≤ (n : Int)) (h2 : 0 ≤ k) (h3 : k ≤ (n : Int)) (hd : (n : Int) - k < (d : Int)), am_E ac_X2_goRound (6, [vR o, vR (o + 10 + x.toNat), vR (o + 10 + y.toNat), vI p, vI a, vI k, v6], [], aq_h m s F c) (aq_Z m s F S c0 (fun r _ => r = none))
  | 0, a, k, v6, c, hs, h0, h1, h2, h3, hd => by exfalso; omega
  | d + 1, a, k, v6, c, hs, h0, h1, h2, h3, hd => by
    obtain ⟨hm, hn1, hn4, hz6, hFo, hFl, hFg, hFt, hFp, hFq, hFd, hFs, hht⟩ := hH
    refine am_E.go (t2 := (8, [vR o, vR (o + 10 + x.toNat), vR (o + 10 + y.toNat), vI p, vI a, vI k, v6], [vI k], aq_h m s F c)) rfl rfl ?_
    refine am_E.go (t2 := (9, [vR o, vR (o + 10 + x.toNat), vR (o + 10 + y.toNat), vI p, vI a, vI k, v6], [vR o, vI k], aq_h m s F c)) rfl rfl ?_
    refine aq_gf (v := vI (n : Int)) rfl (by omega) hFo (by decide) rfl ?_
    show am_E _ (12, [vR o, vR (o + 10 + x.toNat), vR (o + 10 + y.toNat), vI p, vI a, vI k, v6], [vI (n : Int), vI k], aq_h m s F c) _
    refine ae_icmp rfl (fun (q_1 : (n : Int) ≤ k) => ?_) (fun (q_1 : k < (n : Int)) => ?_)
    · refine am_E.ret rfl rfl ?_
      exact ⟨_, rfl, hs, rfl⟩
    · refine am_E.go (t2 := (17, [vR o, vR (o + 10 + x.toNat), vR (o + 10 + y.toNat), vI p, vI a, vI k, v6], [vI a], aq_h m s F c)) rfl rfl ?_
      refine am_E.go (t2 := (18, [vR o, vR (o + 10 + x.toNat), vR (o + 10 + y.toNat), vI p, vI a, vI k, v6], [vR o, vI a], aq_h m s F c)) rfl rfl ?_
      refine aq_gf (v := vI (n : Int)) rfl (by omega) hFo (by decide) rfl ?_
      show am_E _ (21, [vR o, vR (o + 10 + x.toNat), vR (o + 10 + y.toNat), vI p, vI a, vI k, v6], [vI (n : Int), vI a], aq_h m s F c) _
      refine ae_icmp rfl (fun (q_2 : (n : Int) ≤ a) => ?_) (fun (q_2 : a < (n : Int)) => ?_)
      · refine am_E.ret rfl rfl ?_
        exact ⟨_, rfl, hs, rfl⟩
      · refine am_E.go (t2 := (25, [vR o, vR (o + 10 + x.toNat), vR (o + 10 + y.toNat), vI p, vI a, vI k, v6], [vR o], aq_h m s F c)) rfl rfl ?_
        refine aq_gf (v := vR (o + 17)) rfl (by omega) hFo (by decide) rfl ?_
        show am_E _ (28, [vR o, vR (o + 10 + x.toNat), vR (o + 10 + y.toNat), vI p, vI a, vI k, v6], [vR (o + 17)], aq_h m s F c) _
        refine am_E.go (t2 := (30, [vR o, vR (o + 10 + x.toNat), vR (o + 10 + y.toNat), vI p, vI a, vI k, v6], [vI a, vR (o + 17)], aq_h m s F c)) rfl rfl ?_
        refine aq_al (ok := fun k => k == 1) (v := vI (c (o + 17) a)) rfl rfl (by omega) hFs rfl (by omega) (by omega) rfl ?_
        show am_E _ (31, [vR o, vR (o + 10 + x.toNat), vR (o + 10 + y.toNat), vI p, vI a, vI k, v6], [vI (c (o + 17) a)], aq_h m s F c) _
        refine ae_if0 rfl (fun (q_3 : (c (o + 17) a) ≠ 0) => ?_) (fun (q_3 : (c (o + 17) a) = 0) => ?_)
        · refine am_E.ret rfl rfl ?_
          exact ⟨_, rfl, hs, rfl⟩
        · refine am_E.go (t2 := (35, [vR o, vR (o + 10 + x.toNat), vR (o + 10 + y.toNat), vI p, vI a, vI k, v6], [vR o], aq_h m s F c)) rfl rfl ?_
          refine aq_gf (v := vR (o + 17)) rfl (by omega) hFo (by decide) rfl ?_
          show am_E _ (38, [vR o, vR (o + 10 + x.toNat), vR (o + 10 + y.toNat), vI p, vI a, vI k, v6], [vR (o + 17)], aq_h m s F c) _
          refine am_E.go (t2 := (40, [vR o, vR (o + 10 + x.toNat), vR (o + 10 + y.toNat), vI p, vI a, vI k, v6], [vI a, vR (o + 17)], aq_h m s F c)) rfl rfl ?_
          refine am_E.go (t2 := (41, [vR o, vR (o + 10 + x.toNat), vR (o + 10 + y.toNat), vI p, vI a, vI k, v6], [vI 1, vI a, vR (o + 17)], aq_h m s F c)) rfl rfl ?_
          refine aq_as (kd := 1) rfl rfl (by omega) hFs (by omega) (by omega) rfl rfl ?_
          show am_E _ (42, [vR o, vR (o + 10 + x.toNat), vR (o + 10 + y.toNat), vI p, vI a, vI k, v6], [], aq_h m s F (aq_u c (o + 17) a 1)) _
          generalize hdc_4 : aq_u c (o + 17) a 1 = c_4
          have sc_4 := aq_smu hs hdc_4 hSs
          refine am_E.go (t2 := (43, [vR o, vR (o + 10 + x.toNat), vR (o + 10 + y.toNat), vI p, vI a, vI k, v6], [vR (o + 10 + y.toNat)], aq_h m s F c_4)) rfl rfl ?_
          refine am_E.go (t2 := (45, [vR o, vR (o + 10 + x.toNat), vR (o + 10 + y.toNat), vI p, vI a, vI k, v6], [vI a, vR (o + 10 + y.toNat)], aq_h m s F c_4)) rfl rfl ?_
          refine aq_alt (ok := fun k => k == 0) rfl rfl (by omega) (hFq _ (by omega)) rfl (by omega) (by omega) ?_
          show am_E _ (46, [vR o, vR (o + 10 + x.toNat), vR (o + 10 + y.toNat), vI p, vI a, vI k, v6], [vI (th ((y.toNat : Nat) : Int) a)], aq_h m s F c_4) _
          have f_5 := hht ((y.toNat : Nat) : Int) a (by omega) (by omega) (by omega) (by omega)
          refine am_E.go (t2 := (48, [vR o, vR (o + 10 + x.toNat), vR (o + 10 + y.toNat), vI p, vI a, vI k, vI (th ((y.toNat : Nat) : Int) a)], [], aq_h m s F c_4)) rfl rfl ?_
          refine am_E.go (t2 := (50, [vR o, vR (o + 10 + x.toNat), vR (o + 10 + y.toNat), vI p, vI a, vI k, vI (th ((y.toNat : Nat) : Int) a)], [vI (th ((y.toNat : Nat) : Int) a)], aq_h m s F c_4)) rfl rfl ?_
          refine am_E.go (t2 := (51, [vR o, vR (o + 10 + x.toNat), vR (o + 10 + y.toNat), vI p, vI a, vI k, vI (th ((y.toNat : Nat) : Int) a)], [vR o, vI (th ((y.toNat : Nat) : Int) a)], aq_h m s F c_4)) rfl rfl ?_
          refine aq_gf (v := vI (n : Int)) rfl (by omega) hFo (by decide) rfl ?_
          show am_E _ (54, [vR o, vR (o + 10 + x.toNat), vR (o + 10 + y.toNat), vI p, vI a, vI k, vI (th ((y.toNat : Nat) : Int) a)], [vI (n : Int), vI (th ((y.toNat : Nat) : Int) a)], aq_h m s F c_4) _
          refine ae_icmp rfl (fun (q_6 : (n : Int) ≤ (th ((y.toNat : Nat) : Int) a)) => ?_) (fun (q_6 : (th ((y.toNat : Nat) : Int) a) < (n : Int)) => ?_)
          · refine ae_iinc rfl rfl (am_ri (by omega) (by omega)) ?_
            show am_E _ (74, [vR o, vR (o + 10 + x.toNat), vR (o + 10 + y.toNat), vI p, vI a, vI (k + 1), vI (th ((y.toNat : Nat) : Int) a)], [], aq_h m s F c_4) _
            refine am_E.go (t2 := (6, [vR o, vR (o + 10 + x.toNat), vR (o + 10 + y.toNat), vI p, vI a, vI (k + 1), vI (th ((y.toNat : Nat) : Int) a)], [], aq_h m s F c_4)) rfl rfl ?_
            exact qn_goRound_l ⟨hm, hn1, hn4, hz6, hFo, hFl, hFg, hFt, hFp, hFq, hFd, hFs, hht⟩ hSs hSt hx0 hx6 hy0 hy6 d a (k + 1) (vI (th ((y.toNat : Nat) : Int) a)) c_4 sc_4 (by omega) (by omega) (by omega) (by omega) (by omega)
          · refine am_E.go (t2 := (58, [vR o, vR (o + 10 + x.toNat), vR (o + 10 + y.toNat), vI p, vI a, vI k, vI (th ((y.toNat : Nat) : Int) a)], [vR o], aq_h m s F c_4)) rfl rfl ?_
            refine aq_gf (v := vR (o + 17)) rfl (by omega) hFo (by decide) rfl ?_
            show am_E _ (61, [vR o, vR (o + 10 + x.toNat), vR (o + 10 + y.toNat), vI p, vI a, vI k, vI (th ((y.toNat : Nat) : Int) a)], [vR (o + 17)], aq_h m s F c_4) _
            refine am_E.go (t2 := (63, [vR o, vR (o + 10 + x.toNat), vR (o + 10 + y.toNat), vI p, vI a, vI k, vI (th ((y.toNat : Nat) : Int) a)], [vI (th ((y.toNat : Nat) : Int) a), vR (o + 17)], aq_h m s F c_4)) rfl rfl ?_
            refine am_E.go (t2 := (64, [vR o, vR (o + 10 + x.toNat), vR (o + 10 + y.toNat), vI p, vI a, vI k, vI (th ((y.toNat : Nat) : Int) a)], [vI 1, vI (th ((y.toNat : Nat) : Int) a), vR (o + 17)], aq_h m s F c_4)) rfl rfl ?_
            refine aq_as (kd := 1) rfl rfl (by omega) hFs (by omega) (by omega) rfl rfl ?_
            show am_E _ (65, [vR o, vR (o + 10 + x.toNat), vR (o + 10 + y.toNat), vI p, vI a, vI k, vI (th ((y.toNat : Nat) : Int) a)], [], aq_h m s F (aq_u c_4 (o + 17) (th ((y.toNat : Nat) : Int) a) 1)) _
            generalize hdc_7 : aq_u c_4 (o + 17) (th ((y.toNat : Nat) : Int) a) 1 = c_7
            have sc_7 := aq_smu sc_4 hdc_7 hSs
            refine am_E.go (t2 := (66, [vR o, vR (o + 10 + x.toNat), vR (o + 10 + y.toNat), vI p, vI a, vI k, vI (th ((y.toNat : Nat) : Int) a)], [vR (o + 10 + x.toNat)], aq_h m s F c_7)) rfl rfl ?_
            refine am_E.go (t2 := (68, [vR o, vR (o + 10 + x.toNat), vR (o + 10 + y.toNat), vI p, vI a, vI k, vI (th ((y.toNat : Nat) : Int) a)], [vI (th ((y.toNat : Nat) : Int) a), vR (o + 10 + x.toNat)], aq_h m s F c_7)) rfl rfl ?_
            refine aq_alt (ok := fun k => k == 0) rfl rfl (by omega) (hFq _ (by omega)) rfl (by omega) (by omega) ?_
            show am_E _ (69, [vR o, vR (o + 10 + x.toNat), vR (o + 10 + y.toNat), vI p, vI a, vI k, vI (th ((y.toNat : Nat) : Int) a)], [vI (th ((x.toNat : Nat) : Int) (th ((y.toNat : Nat) : Int) a))], aq_h m s F c_7) _
            have f_8 := hht ((x.toNat : Nat) : Int) (th ((y.toNat : Nat) : Int) a) (by omega) (by omega) (by omega) (by omega)
            refine am_E.go (t2 := (71, [vR o, vR (o + 10 + x.toNat), vR (o + 10 + y.toNat), vI p, vI (th ((x.toNat : Nat) : Int) (th ((y.toNat : Nat) : Int) a)), vI k, vI (th ((y.toNat : Nat) : Int) a)], [], aq_h m s F c_7)) rfl rfl ?_
            refine ae_iinc rfl rfl (am_ri (by omega) (by omega)) ?_
            show am_E _ (74, [vR o, vR (o + 10 + x.toNat), vR (o + 10 + y.toNat), vI p, vI (th ((x.toNat : Nat) : Int) (th ((y.toNat : Nat) : Int) a)), vI (k + 1), vI (th ((y.toNat : Nat) : Int) a)], [], aq_h m s F c_7) _
            refine am_E.go (t2 := (6, [vR o, vR (o + 10 + x.toNat), vR (o + 10 + y.toNat), vI p, vI (th ((x.toNat : Nat) : Int) (th ((y.toNat : Nat) : Int) a)), vI (k + 1), vI (th ((y.toNat : Nat) : Int) a)], [], aq_h m s F c_7)) rfl rfl ?_
            exact qn_goRound_l ⟨hm, hn1, hn4, hz6, hFo, hFl, hFg, hFt, hFp, hFq, hFd, hFs, hht⟩ hSs hSt hx0 hx6 hy0 hy6 d (th ((x.toNat : Nat) : Int) (th ((y.toNat : Nat) : Int) a)) (k + 1) (vI (th ((y.toNat : Nat) : Int) a)) c_7 sc_7 (by omega) (by omega) (by omega) (by omega) (by omega)

theorem qn_X2_goRound {m s : Nat} {F : aq_F} {c : aq_C} {S : Nat → Prop} {o n z : Nat} {tl : Int → Int} {th : Int → Int → Int} (hH : hv_0 m F o n z tl th) (hSs : S (o + 17)) (hSt : ∀ j, j < 6 → S (o + 3 + j)) {x y : Int} (hx0 : 0 ≤ x) (hx6 : x < 6) (hy0 : 0 ≤ y) (hy6 : y < 6) {p : Int} (hp0 : 0 ≤ p) (hpn : p < (n : Int)) : am_E ac_X2_goRound (0, [vR o, vR (o + 10 + x.toNat), vR (o + 10 + y.toNat), vI p, vU, vU, vU], [], aq_h m s F c) (aq_Z m s F S c (fun r _ => r = none)) := by
  obtain ⟨hm, hn1, hn4, hz6, hFo, hFl, hFg, hFt, hFp, hFq, hFd, hFs, hht⟩ := hH
  refine am_E.go (t2 := (1, [vR o, vR (o + 10 + x.toNat), vR (o + 10 + y.toNat), vI p, vU, vU, vU], [vI p], aq_h m s F c)) rfl rfl ?_
  refine am_E.go (t2 := (3, [vR o, vR (o + 10 + x.toNat), vR (o + 10 + y.toNat), vI p, vI p, vU, vU], [], aq_h m s F c)) rfl rfl ?_
  refine am_E.go (t2 := (4, [vR o, vR (o + 10 + x.toNat), vR (o + 10 + y.toNat), vI p, vI p, vU, vU], [vI 0], aq_h m s F c)) rfl rfl ?_
  refine am_E.go (t2 := (6, [vR o, vR (o + 10 + x.toNat), vR (o + 10 + y.toNat), vI p, vI p, vI 0, vU], [], aq_h m s F c)) rfl rfl ?_
  exact qn_goRound_l ⟨hm, hn1, hn4, hz6, hFo, hFl, hFg, hFt, hFp, hFq, hFd, hFs, hht⟩ hSs hSt hx0 hx6 hy0 hy6 7 p 0 (vU) c aq_sm0 (by omega) (by omega) (by omega) (by omega) (by omega)

theorem qn_lay_3 {m s : Nat} {F : aq_F} {c0 : aq_C} {S : Nat → Prop} {o n z : Nat} {tl : Int → Int} {th : Int → Int → Int} (hH : hv_0 m F o n z tl th) (hSs : S (o + 17)) (hSt : ∀ j, j < 6 → S (o + 3 + j)) {x y : Int} (hx0 : 0 ≤ x) (hx6 : x < 6) (hy0 : 0 ≤ y) (hy6 : y < 6) : ∀ (d : Nat) (f : Int) (p : Int) (c : aq_C) (hs : aq_sm S c0 c) (h0 : 0 ≤ p) (h1 : p ≤ (n : Int)) (h2 : 0 ≤ f) (h3 : f ≤ p) (hd : (n : Int) - p < (d : Int)), am_E ac_X2_lay (82, [vR o, vI x, vI y, vI f, vI p], [], aq_h m s F c) (aq_Z m s F S c0 (fun r _ => ∃ v, r = some (vI v) ∧ (-4 ≤ v ∧ v ≤ 4)))
  | 0, f, p, c, hs, h0, h1, h2, h3, hd => by exfalso; omega
  | d + 1, f, p, c, hs, h0, h1, h2, h3, hd => by
    obtain ⟨hm, hn1, hn4, hz6, hFo, hFl, hFg, hFt, hFp, hFq, hFd, hFs, hht⟩ := hH
    refine am_E.go (t2 := (84, [vR o, vI x, vI y, vI f, vI p], [vI p], aq_h m s F c)) rfl rfl ?_
    refine am_E.go (t2 := (85, [vR o, vI x, vI y, vI f, vI p], [vR o, vI p], aq_h m s F c)) rfl rfl ?_
    refine aq_gf (v := vI (n : Int)) rfl (by omega) hFo (by decide) rfl ?_
    show am_E _ (88, [vR o, vI x, vI y, vI f, vI p], [vI (n : Int), vI p], aq_h m s F c) _
    refine ae_icmp rfl (fun (q_1 : (n : Int) ≤ p) => ?_) (fun (q_1 : p < (n : Int)) => ?_)
    · refine am_E.go (t2 := (129, [vR o, vI x, vI y, vI f, vI p], [vI f], aq_h m s F c)) rfl rfl ?_
      refine am_E.ret rfl rfl ?_
      exact ⟨_, rfl, hs, _, rfl, by omega⟩
    · refine am_E.go (t2 := (92, [vR o, vI x, vI y, vI f, vI p], [vR o], aq_h m s F c)) rfl rfl ?_
      refine aq_gf (v := vR (o + 17)) rfl (by omega) hFo (by decide) rfl ?_
      show am_E _ (95, [vR o, vI x, vI y, vI f, vI p], [vR (o + 17)], aq_h m s F c) _
      refine am_E.go (t2 := (97, [vR o, vI x, vI y, vI f, vI p], [vI p, vR (o + 17)], aq_h m s F c)) rfl rfl ?_
      refine aq_al (ok := fun k => k == 1) (v := vI (c (o + 17) p)) rfl rfl (by omega) hFs rfl (by omega) (by omega) rfl ?_
      show am_E _ (98, [vR o, vI x, vI y, vI f, vI p], [vI (c (o + 17) p)], aq_h m s F c) _
      refine ae_if0 rfl (fun (q_2 : (c (o + 17) p) ≠ 0) => ?_) (fun (q_2 : (c (o + 17) p) = 0) => ?_)
      · refine ae_iinc rfl rfl (am_ri (by omega) (by omega)) ?_
        show am_E _ (125, [vR o, vI x, vI y, vI f, vI (p + 1)], [], aq_h m s F c) _
        refine am_E.go (t2 := (82, [vR o, vI x, vI y, vI f, vI (p + 1)], [], aq_h m s F c)) rfl rfl ?_
        exact qn_lay_3 ⟨hm, hn1, hn4, hz6, hFo, hFl, hFg, hFt, hFp, hFq, hFd, hFs, hht⟩ hSs hSt hx0 hx6 hy0 hy6 d f (p + 1) c hs (by omega) (by omega) (by omega) (by omega) (by omega)
      · refine ae_iinc rfl rfl (am_ri (by omega) (by omega)) ?_
        show am_E _ (104, [vR o, vI x, vI y, vI (f + 1), vI p], [], aq_h m s F c) _
        refine am_E.go (t2 := (105, [vR o, vI x, vI y, vI (f + 1), vI p], [vR o], aq_h m s F c)) rfl rfl ?_
        refine am_E.go (t2 := (106, [vR o, vI x, vI y, vI (f + 1), vI p], [vR o, vR o], aq_h m s F c)) rfl rfl ?_
        refine aq_gf (v := vR (o + 9)) rfl (by omega) hFo (by decide) rfl ?_
        show am_E _ (109, [vR o, vI x, vI y, vI (f + 1), vI p], [vR (o + 9), vR o], aq_h m s F c) _
        refine am_E.go (t2 := (110, [vR o, vI x, vI y, vI (f + 1), vI p], [vI x, vR (o + 9), vR o], aq_h m s F c)) rfl rfl ?_
        refine aq_al (ok := fun k => decide (3 ≤ k) && decide (k < 7)) (v := vR (o + 10 + x.toNat)) rfl rfl (by omega) hFp rfl (by omega) (by omega) rfl ?_
        show am_E _ (111, [vR o, vI x, vI y, vI (f + 1), vI p], [vR (o + 10 + x.toNat), vR o], aq_h m s F c) _
        refine am_E.go (t2 := (112, [vR o, vI x, vI y, vI (f + 1), vI p], [vR o, vR (o + 10 + x.toNat), vR o], aq_h m s F c)) rfl rfl ?_
        refine aq_gf (v := vR (o + 9)) rfl (by omega) hFo (by decide) rfl ?_
        show am_E _ (115, [vR o, vI x, vI y, vI (f + 1), vI p], [vR (o + 9), vR (o + 10 + x.toNat), vR o], aq_h m s F c) _
        refine am_E.go (t2 := (116, [vR o, vI x, vI y, vI (f + 1), vI p], [vI y, vR (o + 9), vR (o + 10 + x.toNat), vR o], aq_h m s F c)) rfl rfl ?_
        refine aq_al (ok := fun k => decide (3 ≤ k) && decide (k < 7)) (v := vR (o + 10 + y.toNat)) rfl rfl (by omega) hFp rfl (by omega) (by omega) rfl ?_
        show am_E _ (117, [vR o, vI x, vI y, vI (f + 1), vI p], [vR (o + 10 + y.toNat), vR (o + 10 + x.toNat), vR o], aq_h m s F c) _
        refine am_E.go (t2 := (119, [vR o, vI x, vI y, vI (f + 1), vI p], [vI p, vR (o + 10 + y.toNat), vR (o + 10 + x.toNat), vR o], aq_h m s F c)) rfl rfl ?_
        refine aq_callv (y := 4) (as2 := [vR (o + 10 + x.toNat), vR (o + 10 + y.toNat), vI p]) (rest := []) rfl rfl (by decide) (Nat.le_of_ble_eq_true rfl) rfl rfl (Nat.le_of_ble_eq_true rfl) (by omega) hFo rfl (Nat.le_of_ble_eq_true rfl) (qn_X2_goRound ⟨hm, hn1, hn4, hz6, hFo, hFl, hFg, hFt, hFp, hFq, hFd, hFs, hht⟩ hSs hSt (x := x) (y := y) (by omega) (by omega) (by omega) (by omega) (by omega) (by omega)) ?_
        rintro r5 h5 ⟨c_3, rfl, sc_3, rfl⟩
        show am_E _ (122, [vR o, vI x, vI y, vI (f + 1), vI p], [], aq_h m s F c_3) _
        refine ae_iinc rfl rfl (am_ri (by omega) (by omega)) ?_
        show am_E _ (125, [vR o, vI x, vI y, vI (f + 1), vI (p + 1)], [], aq_h m s F c_3) _
        refine am_E.go (t2 := (82, [vR o, vI x, vI y, vI (f + 1), vI (p + 1)], [], aq_h m s F c_3)) rfl rfl ?_
        exact qn_lay_3 ⟨hm, hn1, hn4, hz6, hFo, hFl, hFg, hFt, hFp, hFq, hFd, hFs, hht⟩ hSs hSt hx0 hx6 hy0 hy6 d (f + 1) (p + 1) c_3 (aq_smt hs sc_3) (by omega) (by omega) (by omega) (by omega) (by omega)

theorem qn_lay_2 {m s : Nat} {F : aq_F} {c0 : aq_C} {S : Nat → Prop} {o n z : Nat} {tl : Int → Int} {th : Int → Int → Int} (hH : hv_0 m F o n z tl th) (hSs : S (o + 17)) (hSt : ∀ j, j < 6 → S (o + 3 + j)) {x y : Int} (hx0 : 0 ≤ x) (hx6 : x < 6) (hy0 : 0 ≤ y) (hy6 : y < 6) : ∀ (d : Nat) (p : Int) (v4 : am_V) (c : aq_C) (hs : aq_sm S c0 c) (h0 : 0 ≤ p) (h1 : p ≤ (n : Int)) (hd : (n : Int) - p < (d : Int)), am_E ac_X2_lay (25, [vR o, vI x, vI y, vI p, v4], [], aq_h m s F c) (aq_Z m s F S c0 (fun r _ => ∃ v, r = some (vI v) ∧ (-4 ≤ v ∧ v ≤ 4)))
  | 0, p, v4, c, hs, h0, h1, hd => by exfalso; omega
  | d + 1, p, v4, c, hs, h0, h1, hd => by
    obtain ⟨hm, hn1, hn4, hz6, hFo, hFl, hFg, hFt, hFp, hFq, hFd, hFs, hht⟩ := hH
    refine am_E.go (t2 := (26, [vR o, vI x, vI y, vI p, v4], [vI p], aq_h m s F c)) rfl rfl ?_
    refine am_E.go (t2 := (27, [vR o, vI x, vI y, vI p, v4], [vR o, vI p], aq_h m s F c)) rfl rfl ?_
    refine aq_gf (v := vI (n : Int)) rfl (by omega) hFo (by decide) rfl ?_
    show am_E _ (30, [vR o, vI x, vI y, vI p, v4], [vI (n : Int), vI p], aq_h m s F c) _
    refine ae_icmp rfl (fun (q_1 : (n : Int) ≤ p) => ?_) (fun (q_1 : p < (n : Int)) => ?_)
    · refine am_E.go (t2 := (78, [vR o, vI x, vI y, vI p, v4], [vI 0], aq_h m s F c)) rfl rfl ?_
      refine am_E.go (t2 := (79, [vR o, vI x, vI y, vI 0, v4], [], aq_h m s F c)) rfl rfl ?_
      refine am_E.go (t2 := (80, [vR o, vI x, vI y, vI 0, v4], [vI 0], aq_h m s F c)) rfl rfl ?_
      refine am_E.go (t2 := (82, [vR o, vI x, vI y, vI 0, vI 0], [], aq_h m s F c)) rfl rfl ?_
      exact qn_lay_3 ⟨hm, hn1, hn4, hz6, hFo, hFl, hFg, hFt, hFp, hFq, hFd, hFs, hht⟩ hSs hSt hx0 hx6 hy0 hy6 7 0 0 c hs (by omega) (by omega) (by omega) (by omega) (by omega)
    · refine am_E.go (t2 := (34, [vR o, vI x, vI y, vI p, v4], [vR o], aq_h m s F c)) rfl rfl ?_
      refine aq_gf (v := vR (o + 9)) rfl (by omega) hFo (by decide) rfl ?_
      show am_E _ (37, [vR o, vI x, vI y, vI p, v4], [vR (o + 9)], aq_h m s F c) _
      refine am_E.go (t2 := (38, [vR o, vI x, vI y, vI p, v4], [vI x, vR (o + 9)], aq_h m s F c)) rfl rfl ?_
      refine aq_al (ok := fun k => decide (3 ≤ k) && decide (k < 7)) (v := vR (o + 10 + x.toNat)) rfl rfl (by omega) hFp rfl (by omega) (by omega) rfl ?_
      show am_E _ (39, [vR o, vI x, vI y, vI p, v4], [vR (o + 10 + x.toNat)], aq_h m s F c) _
      refine am_E.go (t2 := (40, [vR o, vI x, vI y, vI p, v4], [vI p, vR (o + 10 + x.toNat)], aq_h m s F c)) rfl rfl ?_
      refine aq_alt (ok := fun k => k == 0) rfl rfl (by omega) (hFq _ (by omega)) rfl (by omega) (by omega) ?_
      show am_E _ (41, [vR o, vI x, vI y, vI p, v4], [vI (th ((x.toNat : Nat) : Int) p)], aq_h m s F c) _
      have f_2 := hht ((x.toNat : Nat) : Int) p (by omega) (by omega) (by omega) (by omega)
      refine am_E.go (t2 := (42, [vR o, vI x, vI y, vI p, v4], [vR o, vI (th ((x.toNat : Nat) : Int) p)], aq_h m s F c)) rfl rfl ?_
      refine aq_gf (v := vI (n : Int)) rfl (by omega) hFo (by decide) rfl ?_
      show am_E _ (45, [vR o, vI x, vI y, vI p, v4], [vI (n : Int), vI (th ((x.toNat : Nat) : Int) p)], aq_h m s F c) _
      refine ae_icmp rfl (fun (q_3 : (th ((x.toNat : Nat) : Int) p) ≠ (n : Int)) => ?_) (fun (q_3 : (th ((x.toNat : Nat) : Int) p) = (n : Int)) => ?_)
      · refine ae_iinc rfl rfl (am_ri (by omega) (by omega)) ?_
        show am_E _ (74, [vR o, vI x, vI y, vI (p + 1), v4], [], aq_h m s F c) _
        refine am_E.go (t2 := (25, [vR o, vI x, vI y, vI (p + 1), v4], [], aq_h m s F c)) rfl rfl ?_
        exact qn_lay_2 ⟨hm, hn1, hn4, hz6, hFo, hFl, hFg, hFt, hFp, hFq, hFd, hFs, hht⟩ hSs hSt hx0 hx6 hy0 hy6 d (p + 1) (v4) c hs (by omega) (by omega) (by omega)
      · refine am_E.go (t2 := (49, [vR o, vI x, vI y, vI p, v4], [vR o], aq_h m s F c)) rfl rfl ?_
        refine am_E.go (t2 := (50, [vR o, vI x, vI y, vI p, v4], [vR o, vR o], aq_h m s F c)) rfl rfl ?_
        refine aq_gf (v := vR (o + 9)) rfl (by omega) hFo (by decide) rfl ?_
        show am_E _ (53, [vR o, vI x, vI y, vI p, v4], [vR (o + 9), vR o], aq_h m s F c) _
        refine am_E.go (t2 := (54, [vR o, vI x, vI y, vI p, v4], [vI x, vR (o + 9), vR o], aq_h m s F c)) rfl rfl ?_
        refine aq_al (ok := fun k => decide (3 ≤ k) && decide (k < 7)) (v := vR (o + 10 + x.toNat)) rfl rfl (by omega) hFp rfl (by omega) (by omega) rfl ?_
        show am_E _ (55, [vR o, vI x, vI y, vI p, v4], [vR (o + 10 + x.toNat), vR o], aq_h m s F c) _
        refine am_E.go (t2 := (56, [vR o, vI x, vI y, vI p, v4], [vR o, vR (o + 10 + x.toNat), vR o], aq_h m s F c)) rfl rfl ?_
        refine aq_gf (v := vR (o + 9)) rfl (by omega) hFo (by decide) rfl ?_
        show am_E _ (59, [vR o, vI x, vI y, vI p, v4], [vR (o + 9), vR (o + 10 + x.toNat), vR o], aq_h m s F c) _
        refine am_E.go (t2 := (60, [vR o, vI x, vI y, vI p, v4], [vI y, vR (o + 9), vR (o + 10 + x.toNat), vR o], aq_h m s F c)) rfl rfl ?_
        refine aq_al (ok := fun k => decide (3 ≤ k) && decide (k < 7)) (v := vR (o + 10 + y.toNat)) rfl rfl (by omega) hFp rfl (by omega) (by omega) rfl ?_
        show am_E _ (61, [vR o, vI x, vI y, vI p, v4], [vR (o + 10 + y.toNat), vR (o + 10 + x.toNat), vR o], aq_h m s F c) _
        refine am_E.go (t2 := (62, [vR o, vI x, vI y, vI p, v4], [vI p, vR (o + 10 + y.toNat), vR (o + 10 + x.toNat), vR o], aq_h m s F c)) rfl rfl ?_
        refine aq_callv (y := 4) (as2 := [vR (o + 10 + x.toNat), vR (o + 10 + y.toNat), vI p]) (rest := []) rfl rfl (by decide) (Nat.le_of_ble_eq_true rfl) rfl rfl (Nat.le_of_ble_eq_true rfl) (by omega) hFo rfl (Nat.le_of_ble_eq_true rfl) (qn_X2_leadsOut ⟨hm, hn1, hn4, hz6, hFo, hFl, hFg, hFt, hFp, hFq, hFd, hFs, hht⟩ hSs hSt (x := x) (y := y) (by omega) (by omega) (by omega) (by omega) (by omega) (by omega)) ?_
        rintro r5 h5 ⟨c_4, rfl, sc_4, v_5, rfl, hv_5⟩
        show am_E _ (65, [vR o, vI x, vI y, vI p, v4], [vI v_5], aq_h m s F c_4) _
        refine ae_if0 rfl (fun (q_6 : v_5 ≠ 0) => ?_) (fun (q_6 : v_5 = 0) => ?_)
        · refine ae_iinc rfl rfl (am_ri (by omega) (by omega)) ?_
          show am_E _ (74, [vR o, vI x, vI y, vI (p + 1), v4], [], aq_h m s F c_4) _
          refine am_E.go (t2 := (25, [vR o, vI x, vI y, vI (p + 1), v4], [], aq_h m s F c_4)) rfl rfl ?_
          exact qn_lay_2 ⟨hm, hn1, hn4, hz6, hFo, hFl, hFg, hFt, hFp, hFq, hFd, hFs, hht⟩ hSs hSt hx0 hx6 hy0 hy6 d (p + 1) (v4) c_4 (aq_smt hs sc_4) (by omega) (by omega) (by omega)
        · refine am_E.go (t2 := (70, [vR o, vI x, vI y, vI p, v4], [vI (-4)], aq_h m s F c_4)) rfl rfl ?_
          refine am_E.ret rfl rfl ?_
          exact ⟨_, rfl, (aq_smt hs sc_4), _, rfl, by omega⟩

theorem qn_lay_1 {m s : Nat} {F : aq_F} {c0 : aq_C} {S : Nat → Prop} {o n z : Nat} {tl : Int → Int} {th : Int → Int → Int} (hH : hv_0 m F o n z tl th) (hSs : S (o + 17)) (hSt : ∀ j, j < 6 → S (o + 3 + j)) {x y : Int} (hx0 : 0 ≤ x) (hx6 : x < 6) (hy0 : 0 ≤ y) (hy6 : y < 6) : ∀ (d : Nat) (p : Int) (v4 : am_V) (c : aq_C) (hs : aq_sm S c0 c) (h0 : 0 ≤ p) (h1 : p ≤ (n : Int)) (hd : (n : Int) - p < (d : Int)), am_E ac_X2_lay (2, [vR o, vI x, vI y, vI p, v4], [], aq_h m s F c) (aq_Z m s F S c0 (fun r _ => ∃ v, r = some (vI v) ∧ (-4 ≤ v ∧ v ≤ 4)))
  | 0, p, v4, c, hs, h0, h1, hd => by exfalso; omega
  | d + 1, p, v4, c, hs, h0, h1, hd => by
    obtain ⟨hm, hn1, hn4, hz6, hFo, hFl, hFg, hFt, hFp, hFq, hFd, hFs, hht⟩ := hH
    refine am_E.go (t2 := (3, [vR o, vI x, vI y, vI p, v4], [vI p], aq_h m s F c)) rfl rfl ?_
    refine am_E.go (t2 := (4, [vR o, vI x, vI y, vI p, v4], [vR o, vI p], aq_h m s F c)) rfl rfl ?_
    refine aq_gf (v := vI (n : Int)) rfl (by omega) hFo (by decide) rfl ?_
    show am_E _ (7, [vR o, vI x, vI y, vI p, v4], [vI (n : Int), vI p], aq_h m s F c) _
    refine ae_icmp rfl (fun (q_1 : (n : Int) ≤ p) => ?_) (fun (q_1 : p < (n : Int)) => ?_)
    · refine am_E.go (t2 := (24, [vR o, vI x, vI y, vI p, v4], [vI 0], aq_h m s F c)) rfl rfl ?_
      refine am_E.go (t2 := (25, [vR o, vI x, vI y, vI 0, v4], [], aq_h m s F c)) rfl rfl ?_
      exact qn_lay_2 ⟨hm, hn1, hn4, hz6, hFo, hFl, hFg, hFt, hFp, hFq, hFd, hFs, hht⟩ hSs hSt hx0 hx6 hy0 hy6 7 0 (v4) c hs (by omega) (by omega) (by omega)
    · refine am_E.go (t2 := (11, [vR o, vI x, vI y, vI p, v4], [vR o], aq_h m s F c)) rfl rfl ?_
      refine aq_gf (v := vR (o + 17)) rfl (by omega) hFo (by decide) rfl ?_
      show am_E _ (14, [vR o, vI x, vI y, vI p, v4], [vR (o + 17)], aq_h m s F c) _
      refine am_E.go (t2 := (15, [vR o, vI x, vI y, vI p, v4], [vI p, vR (o + 17)], aq_h m s F c)) rfl rfl ?_
      refine am_E.go (t2 := (16, [vR o, vI x, vI y, vI p, v4], [vI 0, vI p, vR (o + 17)], aq_h m s F c)) rfl rfl ?_
      refine aq_as (kd := 1) rfl rfl (by omega) hFs (by omega) (by omega) rfl rfl ?_
      show am_E _ (17, [vR o, vI x, vI y, vI p, v4], [], aq_h m s F (aq_u c (o + 17) p 0)) _
      generalize hdc_2 : aq_u c (o + 17) p 0 = c_2
      have sc_2 := aq_smu hs hdc_2 hSs
      refine ae_iinc rfl rfl (am_ri (by omega) (by omega)) ?_
      show am_E _ (20, [vR o, vI x, vI y, vI (p + 1), v4], [], aq_h m s F c_2) _
      refine am_E.go (t2 := (2, [vR o, vI x, vI y, vI (p + 1), v4], [], aq_h m s F c_2)) rfl rfl ?_
      exact qn_lay_1 ⟨hm, hn1, hn4, hz6, hFo, hFl, hFg, hFt, hFp, hFq, hFd, hFs, hht⟩ hSs hSt hx0 hx6 hy0 hy6 d (p + 1) (v4) c_2 sc_2 (by omega) (by omega) (by omega)

theorem qn_X2_lay {m s : Nat} {F : aq_F} {c : aq_C} {S : Nat → Prop} {o n z : Nat} {tl : Int → Int} {th : Int → Int → Int} (hH : hv_0 m F o n z tl th) (hSs : S (o + 17)) (hSt : ∀ j, j < 6 → S (o + 3 + j)) {x y : Int} (hx0 : 0 ≤ x) (hx6 : x < 6) (hy0 : 0 ≤ y) (hy6 : y < 6) : am_E ac_X2_lay (0, [vR o, vI x, vI y, vU, vU], [], aq_h m s F c) (aq_Z m s F S c (fun r _ => ∃ v, r = some (vI v) ∧ (-4 ≤ v ∧ v ≤ 4))) := by
  obtain ⟨hm, hn1, hn4, hz6, hFo, hFl, hFg, hFt, hFp, hFq, hFd, hFs, hht⟩ := hH
  refine am_E.go (t2 := (1, [vR o, vI x, vI y, vU, vU], [vI 0], aq_h m s F c)) rfl rfl ?_
  refine am_E.go (t2 := (2, [vR o, vI x, vI y, vI 0, vU], [], aq_h m s F c)) rfl rfl ?_
  exact qn_lay_1 ⟨hm, hn1, hn4, hz6, hFo, hFl, hFg, hFt, hFp, hFq, hFd, hFs, hht⟩ hSs hSt hx0 hx6 hy0 hy6 7 0 (vU) c aq_sm0 (by omega) (by omega) (by omega)

theorem qn_raise_l {m s : Nat} {F : aq_F} {c : aq_C} {v e p : Int} (hp : p ≠ 0) (he : e ≤ 4) : ∀ (d : Nat) (x : Int) (i : Int) (h0 : 0 ≤ i) (h1 : i ≤ 4) (hd : max 0 (e - i) < (d : Int)), am_E ac_X2_raise (7, [vI v, vI e, vI p, vI x, vI i], [], aq_h m s F c) (aq_P m s F c aq_vi)
  | 0, x, i, h0, h1, hd => by exfalso; omega
  | d + 1, x, i, h0, h1, hd => by
    refine am_E.go (t2 := (9, [vI v, vI e, vI p, vI x, vI i], [vI i], aq_h m s F c)) rfl rfl ?_
    refine am_E.go (t2 := (10, [vI v, vI e, vI p, vI x, vI i], [vI e, vI i], aq_h m s F c)) rfl rfl ?_
    refine ae_icmp rfl (fun (q_1 : e ≤ i) => ?_) (fun (q_1 : i < e) => ?_)
    · refine am_E.go (t2 := (26, [vI v, vI e, vI p, vI x, vI i], [vI x], aq_h m s F c)) rfl rfl ?_
      refine am_E.ret rfl rfl ?_
      exact ⟨rfl, _, rfl⟩
    · refine am_E.go (t2 := (14, [vI v, vI e, vI p, vI x, vI i], [vI x], aq_h m s F c)) rfl rfl ?_
      refine am_E.go (t2 := (15, [vI v, vI e, vI p, vI x, vI i], [vI v, vI x], aq_h m s F c)) rfl rfl ?_
      refine am_E.go (t2 := (16, [vI v, vI e, vI p, vI x, vI i], [vI (am_w (x * v))], aq_h m s F c)) rfl rfl ?_
      refine am_E.go (t2 := (17, [vI v, vI e, vI p, vI x, vI i], [vI p, vI (am_w (x * v))], aq_h m s F c)) rfl rfl ?_
      refine ae_bin (z := (am_w (x * v)).tmod p) rfl rfl (am_rem_s hp) ?_
      show am_E _ (18, [vI v, vI e, vI p, vI x, vI i], [vI ((am_w (x * v)).tmod p)], aq_h m s F c) _
      refine am_E.go (t2 := (19, [vI v, vI e, vI p, vI ((am_w (x * v)).tmod p), vI i], [], aq_h m s F c)) rfl rfl ?_
      refine ae_iinc rfl rfl (am_ri (by omega) (by omega)) ?_
      show am_E _ (22, [vI v, vI e, vI p, vI ((am_w (x * v)).tmod p), vI (i + 1)], [], aq_h m s F c) _
      refine am_E.go (t2 := (7, [vI v, vI e, vI p, vI ((am_w (x * v)).tmod p), vI (i + 1)], [], aq_h m s F c)) rfl rfl ?_
      exact qn_raise_l hp he d ((am_w (x * v)).tmod p) (i + 1) (by omega) (by omega) (by omega)

theorem qn_X2_raise {m s : Nat} {F : aq_F} {c : aq_C} {v e p : Int} (hp : p ≠ 0) (he : e ≤ 4) : am_E ac_X2_raise (0, [vI v, vI e, vI p, vU, vU], [], aq_h m s F c) (aq_P m s F c aq_vi) := by
  refine am_E.go (t2 := (1, [vI v, vI e, vI p, vU, vU], [vI 1], aq_h m s F c)) rfl rfl ?_
  refine am_E.go (t2 := (2, [vI v, vI e, vI p, vU, vU], [vI p, vI 1], aq_h m s F c)) rfl rfl ?_
  refine ae_bin (z := (1 : Int).tmod p) rfl rfl (am_rem_s hp) ?_
  show am_E _ (3, [vI v, vI e, vI p, vU, vU], [vI ((1 : Int).tmod p)], aq_h m s F c) _
  refine am_E.go (t2 := (4, [vI v, vI e, vI p, vI ((1 : Int).tmod p), vU], [], aq_h m s F c)) rfl rfl ?_
  refine am_E.go (t2 := (5, [vI v, vI e, vI p, vI ((1 : Int).tmod p), vU], [vI 0], aq_h m s F c)) rfl rfl ?_
  refine am_E.go (t2 := (7, [vI v, vI e, vI p, vI ((1 : Int).tmod p), vI 0], [], aq_h m s F c)) rfl rfl ?_
  exact qn_raise_l hp he 6 ((1 : Int).tmod p) 0 (by omega) (by omega) (by omega)

theorem qn_fillRow_l {m s : Nat} {F : aq_F} {c0 : aq_C} {S : Nat → Prop} {o n z : Nat} {tl : Int → Int} {th : Int → Int → Int} (hH : hv_0 m F o n z tl th) (hSs : S (o + 17)) (hSt : ∀ j, j < 6 → S (o + 3 + j)) {k x v p : Int} (hk0 : 0 ≤ k) (hk6 : k < 6) (hx0 : 0 ≤ x) (hxz : x < (z : Int)) (hp : p ≠ 0) : ∀ (d : Nat) (q : Int) (y : Int) (v7 : am_V) (c : aq_C) (hs : aq_sm S c0 c) (h0 : 0 ≤ q) (h1 : q ≤ y) (h2 : y ≤ (z : Int)) (hd : (z : Int) - y < (d : Int)), am_E ac_X2_fillRow (6, [vR o, vR (o + 3 + k.toNat), vI x, vI v, vI p, vI q, vI y, v7], [], aq_h m s F c) (aq_Z m s F S c0 (fun r _ => r = none))
  | 0, q, y, v7, c, hs, h0, h1, h2, hd => by exfalso; omega
  | d + 1, q, y, v7, c, hs, h0, h1, h2, hd => by
    obtain ⟨hm, hn1, hn4, hz6, hFo, hFl, hFg, hFt, hFp, hFq, hFd, hFs, hht⟩ := hH
    refine am_E.go (t2 := (8, [vR o, vR (o + 3 + k.toNat), vI x, vI v, vI p, vI q, vI y, v7], [vI y], aq_h m s F c)) rfl rfl ?_
    refine am_E.go (t2 := (9, [vR o, vR (o + 3 + k.toNat), vI x, vI v, vI p, vI q, vI y, v7], [vR o, vI y], aq_h m s F c)) rfl rfl ?_
    refine aq_gf (v := vI (z : Int)) rfl (by omega) hFo (by decide) rfl ?_
    show am_E _ (12, [vR o, vR (o + 3 + k.toNat), vI x, vI v, vI p, vI q, vI y, v7], [vI (z : Int), vI y], aq_h m s F c) _
    refine ae_icmp rfl (fun (q_1 : (z : Int) ≤ y) => ?_) (fun (q_1 : y < (z : Int)) => ?_)
    · refine am_E.ret rfl rfl ?_
      exact ⟨_, rfl, hs, rfl⟩
    · refine am_E.go (t2 := (16, [vR o, vR (o + 3 + k.toNat), vI x, vI v, vI p, vI q, vI y, v7], [vR o], aq_h m s F c)) rfl rfl ?_
      refine aq_gf (v := vR (o + 1)) rfl (by omega) hFo (by decide) rfl ?_
      show am_E _ (19, [vR o, vR (o + 3 + k.toNat), vI x, vI v, vI p, vI q, vI y, v7], [vR (o + 1)], aq_h m s F c) _
      refine am_E.go (t2 := (21, [vR o, vR (o + 3 + k.toNat), vI x, vI v, vI p, vI q, vI y, v7], [vI y, vR (o + 1)], aq_h m s F c)) rfl rfl ?_
      refine aq_alt (ok := fun k => k == 0) rfl rfl (by omega) hFl rfl (by omega) (by omega) ?_
      show am_E _ (22, [vR o, vR (o + 3 + k.toNat), vI x, vI v, vI p, vI q, vI y, v7], [vI (tl y)], aq_h m s F c) _
      refine am_E.go (t2 := (23, [vR o, vR (o + 3 + k.toNat), vI x, vI v, vI p, vI q, vI y, v7], [vR o, vI (tl y)], aq_h m s F c)) rfl rfl ?_
      refine aq_gf (v := vR (o + 1)) rfl (by omega) hFo (by decide) rfl ?_
      show am_E _ (26, [vR o, vR (o + 3 + k.toNat), vI x, vI v, vI p, vI q, vI y, v7], [vR (o + 1), vI (tl y)], aq_h m s F c) _
      refine am_E.go (t2 := (27, [vR o, vR (o + 3 + k.toNat), vI x, vI v, vI p, vI q, vI y, v7], [vI x, vR (o + 1), vI (tl y)], aq_h m s F c)) rfl rfl ?_
      refine aq_alt (ok := fun k => k == 0) rfl rfl (by omega) hFl rfl (by omega) (by omega) ?_
      show am_E _ (28, [vR o, vR (o + 3 + k.toNat), vI x, vI v, vI p, vI q, vI y, v7], [vI (tl x), vI (tl y)], aq_h m s F c) _
      refine ae_icmp rfl (fun (q_2 : (tl y) ≠ (tl x)) => ?_) (fun (q_2 : (tl y) = (tl x)) => ?_)
      · refine ae_iinc rfl rfl (am_ri (by omega) (by omega)) ?_
        show am_E _ (69, [vR o, vR (o + 3 + k.toNat), vI x, vI v, vI p, vI q, vI (y + 1), v7], [], aq_h m s F c) _
        refine am_E.go (t2 := (6, [vR o, vR (o + 3 + k.toNat), vI x, vI v, vI p, vI q, vI (y + 1), v7], [], aq_h m s F c)) rfl rfl ?_
        exact qn_fillRow_l ⟨hm, hn1, hn4, hz6, hFo, hFl, hFg, hFt, hFp, hFq, hFd, hFs, hht⟩ hSs hSt hk0 hk6 hx0 hxz hp d q (y + 1) (v7) c hs (by omega) (by omega) (by omega) (by omega)
      · refine am_E.go (t2 := (32, [vR o, vR (o + 3 + k.toNat), vI x, vI v, vI p, vI q, vI y, v7], [vR o], aq_h m s F c)) rfl rfl ?_
        refine am_E.go (t2 := (33, [vR o, vR (o + 3 + k.toNat), vI x, vI v, vI p, vI q, vI y, v7], [vI x, vR o], aq_h m s F c)) rfl rfl ?_
        refine am_E.go (t2 := (35, [vR o, vR (o + 3 + k.toNat), vI x, vI v, vI p, vI q, vI y, v7], [vI y, vI x, vR o], aq_h m s F c)) rfl rfl ?_
        refine aq_callv (y := 3) (as2 := [vI x, vI y]) (rest := []) rfl rfl (by decide) (Nat.le_of_ble_eq_true rfl) rfl rfl (Nat.le_of_ble_eq_true rfl) (by omega) hFo rfl (Nat.le_of_ble_eq_true rfl) (qn_X2_lay ⟨hm, hn1, hn4, hz6, hFo, hFl, hFg, hFt, hFp, hFq, hFd, hFs, hht⟩ hSs hSt (by omega) (by omega) (by omega) (by omega)) ?_
        rintro r5 h5 ⟨c_3, rfl, sc_3, v_4, rfl, hv_4⟩
        show am_E _ (38, [vR o, vR (o + 3 + k.toNat), vI x, vI v, vI p, vI q, vI y, v7], [vI v_4], aq_h m s F c_3) _
        refine am_E.go (t2 := (40, [vR o, vR (o + 3 + k.toNat), vI x, vI v, vI p, vI q, vI y, vI v_4], [], aq_h m s F c_3)) rfl rfl ?_
        refine am_E.go (t2 := (41, [vR o, vR (o + 3 + k.toNat), vI x, vI v, vI p, vI q, vI y, vI v_4], [vR (o + 3 + k.toNat)], aq_h m s F c_3)) rfl rfl ?_
        refine am_E.go (t2 := (43, [vR o, vR (o + 3 + k.toNat), vI x, vI v, vI p, vI q, vI y, vI v_4], [vI q, vR (o + 3 + k.toNat)], aq_h m s F c_3)) rfl rfl ?_
        refine am_E.go (t2 := (45, [vR o, vR (o + 3 + k.toNat), vI x, vI v, vI p, vI q, vI y, vI v_4], [vI v_4, vI q, vR (o + 3 + k.toNat)], aq_h m s F c_3)) rfl rfl ?_
        refine am_E.go (t2 := (47, [vR o, vR (o + 3 + k.toNat), vI x, vI v, vI p, vI q, vI y, vI v_4], [vI (-4), vI v_4, vI q, vR (o + 3 + k.toNat)], aq_h m s F c_3)) rfl rfl ?_
        refine ae_icmp rfl (fun (q_5 : v_4 ≠ (-4)) => ?_) (fun (q_5 : v_4 = (-4)) => ?_)
        · refine am_E.go (t2 := (55, [vR o, vR (o + 3 + k.toNat), vI x, vI v, vI p, vI q, vI y, vI v_4], [vI v, vI q, vR (o + 3 + k.toNat)], aq_h m s F c_3)) rfl rfl ?_
          refine am_E.go (t2 := (57, [vR o, vR (o + 3 + k.toNat), vI x, vI v, vI p, vI q, vI y, vI v_4], [vI v_4, vI v, vI q, vR (o + 3 + k.toNat)], aq_h m s F c_3)) rfl rfl ?_
          refine am_E.go (t2 := (59, [vR o, vR (o + 3 + k.toNat), vI x, vI v, vI p, vI q, vI y, vI v_4], [vI p, vI v_4, vI v, vI q, vR (o + 3 + k.toNat)], aq_h m s F c_3)) rfl rfl ?_
          refine am_E.call rfl rfl rfl (Nat.le_of_ble_eq_true rfl) (qn_X2_raise (by omega) (by omega)) ?_
          rintro r5 h5 ⟨rfl, v_6, rfl⟩
          show am_E _ (62, [vR o, vR (o + 3 + k.toNat), vI x, vI v, vI p, vI q, vI y, vI v_4], [vI v_6, vI q, vR (o + 3 + k.toNat)], aq_h m s F c_3) _
          refine aq_as (kd := 0) rfl rfl (by omega) (hFt _ (by omega)) (by omega) (by omega) rfl rfl ?_
          show am_E _ (63, [vR o, vR (o + 3 + k.toNat), vI x, vI v, vI p, vI q, vI y, vI v_4], [], aq_h m s F (aq_u c_3 (o + 3 + k.toNat) q v_6)) _
          generalize hdc_7 : aq_u c_3 (o + 3 + k.toNat) q v_6 = c_7
          have sc_7 := aq_smu (aq_smt hs sc_3) hdc_7 (hSt _ (by omega))
          refine ae_iinc rfl rfl (am_ri (by omega) (by omega)) ?_
          show am_E _ (66, [vR o, vR (o + 3 + k.toNat), vI x, vI v, vI p, vI (q + 1), vI y, vI v_4], [], aq_h m s F c_7) _
          refine ae_iinc rfl rfl (am_ri (by omega) (by omega)) ?_
          show am_E _ (69, [vR o, vR (o + 3 + k.toNat), vI x, vI v, vI p, vI (q + 1), vI (y + 1), vI v_4], [], aq_h m s F c_7) _
          refine am_E.go (t2 := (6, [vR o, vR (o + 3 + k.toNat), vI x, vI v, vI p, vI (q + 1), vI (y + 1), vI v_4], [], aq_h m s F c_7)) rfl rfl ?_
          exact qn_fillRow_l ⟨hm, hn1, hn4, hz6, hFo, hFl, hFg, hFt, hFp, hFq, hFd, hFs, hht⟩ hSs hSt hk0 hk6 hx0 hxz hp d (q + 1) (y + 1) (vI v_4) c_7 sc_7 (by omega) (by omega) (by omega) (by omega)
        · refine am_E.go (t2 := (51, [vR o, vR (o + 3 + k.toNat), vI x, vI v, vI p, vI q, vI y, vI v_4], [vI 0, vI q, vR (o + 3 + k.toNat)], aq_h m s F c_3)) rfl rfl ?_
          refine am_E.go (t2 := (62, [vR o, vR (o + 3 + k.toNat), vI x, vI v, vI p, vI q, vI y, vI v_4], [vI 0, vI q, vR (o + 3 + k.toNat)], aq_h m s F c_3)) rfl rfl ?_
          refine aq_as (kd := 0) rfl rfl (by omega) (hFt _ (by omega)) (by omega) (by omega) rfl rfl ?_
          show am_E _ (63, [vR o, vR (o + 3 + k.toNat), vI x, vI v, vI p, vI q, vI y, vI v_4], [], aq_h m s F (aq_u c_3 (o + 3 + k.toNat) q 0)) _
          generalize hdc_8 : aq_u c_3 (o + 3 + k.toNat) q 0 = c_8
          have sc_8 := aq_smu (aq_smt hs sc_3) hdc_8 (hSt _ (by omega))
          refine ae_iinc rfl rfl (am_ri (by omega) (by omega)) ?_
          show am_E _ (66, [vR o, vR (o + 3 + k.toNat), vI x, vI v, vI p, vI (q + 1), vI y, vI v_4], [], aq_h m s F c_8) _
          refine ae_iinc rfl rfl (am_ri (by omega) (by omega)) ?_
          show am_E _ (69, [vR o, vR (o + 3 + k.toNat), vI x, vI v, vI p, vI (q + 1), vI (y + 1), vI v_4], [], aq_h m s F c_8) _
          refine am_E.go (t2 := (6, [vR o, vR (o + 3 + k.toNat), vI x, vI v, vI p, vI (q + 1), vI (y + 1), vI v_4], [], aq_h m s F c_8)) rfl rfl ?_
          exact qn_fillRow_l ⟨hm, hn1, hn4, hz6, hFo, hFl, hFg, hFt, hFp, hFq, hFd, hFs, hht⟩ hSs hSt hk0 hk6 hx0 hxz hp d (q + 1) (y + 1) (vI v_4) c_8 sc_8 (by omega) (by omega) (by omega) (by omega)

theorem qn_X2_fillRow {m s : Nat} {F : aq_F} {c : aq_C} {S : Nat → Prop} {o n z : Nat} {tl : Int → Int} {th : Int → Int → Int} (hH : hv_0 m F o n z tl th) (hSs : S (o + 17)) (hSt : ∀ j, j < 6 → S (o + 3 + j)) {k x v p : Int} (hk0 : 0 ≤ k) (hk6 : k < 6) (hx0 : 0 ≤ x) (hxz : x < (z : Int)) (hp : p ≠ 0) : am_E ac_X2_fillRow (0, [vR o, vR (o + 3 + k.toNat), vI x, vI v, vI p, vU, vU, vU], [], aq_h m s F c) (aq_Z m s F S c (fun r _ => r = none)) := by
  obtain ⟨hm, hn1, hn4, hz6, hFo, hFl, hFg, hFt, hFp, hFq, hFd, hFs, hht⟩ := hH
  refine am_E.go (t2 := (1, [vR o, vR (o + 3 + k.toNat), vI x, vI v, vI p, vU, vU, vU], [vI 0], aq_h m s F c)) rfl rfl ?_
  refine am_E.go (t2 := (3, [vR o, vR (o + 3 + k.toNat), vI x, vI v, vI p, vI 0, vU, vU], [], aq_h m s F c)) rfl rfl ?_
  refine am_E.go (t2 := (4, [vR o, vR (o + 3 + k.toNat), vI x, vI v, vI p, vI 0, vU, vU], [vI 0], aq_h m s F c)) rfl rfl ?_
  refine am_E.go (t2 := (6, [vR o, vR (o + 3 + k.toNat), vI x, vI v, vI p, vI 0, vI 0, vU], [], aq_h m s F c)) rfl rfl ?_
  exact qn_fillRow_l ⟨hm, hn1, hn4, hz6, hFo, hFl, hFg, hFt, hFp, hFq, hFd, hFs, hht⟩ hSs hSt hk0 hk6 hx0 hxz hp 7 0 0 (vU) c aq_sm0 (by omega) (by omega) (by omega) (by omega)

theorem qn_fillTable_l {m s : Nat} {F : aq_F} {c0 : aq_C} {S : Nat → Prop} {o n z : Nat} {tl : Int → Int} {th : Int → Int → Int} (hH : hv_0 m F o n z tl th) (hSs : S (o + 17)) (hSt : ∀ j, j < 6 → S (o + 3 + j)) {t v p : Int} (hp : p ≠ 0) : ∀ (d : Nat) (r : Int) (x : Int) (c : aq_C) (hs : aq_sm S c0 c) (h0 : 0 ≤ r) (h1 : r ≤ x) (h2 : x ≤ (z : Int)) (hd : (z : Int) - x < (d : Int)), am_E ac_X2_fillTable (6, [vR o, vI t, vI v, vI p, vI r, vI x], [], aq_h m s F c) (aq_Z m s F S c0 (fun r _ => ∃ v, r = some (vI v) ∧ (0 ≤ v ∧ v ≤ (z : Int))))
  | 0, r, x, c, hs, h0, h1, h2, hd => by exfalso; omega
  | d + 1, r, x, c, hs, h0, h1, h2, hd => by
    obtain ⟨hm, hn1, hn4, hz6, hFo, hFl, hFg, hFt, hFp, hFq, hFd, hFs, hht⟩ := hH
    refine am_E.go (t2 := (8, [vR o, vI t, vI v, vI p, vI r, vI x], [vI x], aq_h m s F c)) rfl rfl ?_
    refine am_E.go (t2 := (9, [vR o, vI t, vI v, vI p, vI r, vI x], [vR o, vI x], aq_h m s F c)) rfl rfl ?_
    refine aq_gf (v := vI (z : Int)) rfl (by omega) hFo (by decide) rfl ?_
    show am_E _ (12, [vR o, vI t, vI v, vI p, vI r, vI x], [vI (z : Int), vI x], aq_h m s F c) _
    refine ae_icmp rfl (fun (q_1 : (z : Int) ≤ x) => ?_) (fun (q_1 : x < (z : Int)) => ?_)
    · refine am_E.go (t2 := (52, [vR o, vI t, vI v, vI p, vI r, vI x], [vI r], aq_h m s F c)) rfl rfl ?_
      refine am_E.ret rfl rfl ?_
      exact ⟨_, rfl, hs, _, rfl, by omega⟩
    · refine am_E.go (t2 := (16, [vR o, vI t, vI v, vI p, vI r, vI x], [vR o], aq_h m s F c)) rfl rfl ?_
      refine aq_gf (v := vR (o + 1)) rfl (by omega) hFo (by decide) rfl ?_
      show am_E _ (19, [vR o, vI t, vI v, vI p, vI r, vI x], [vR (o + 1)], aq_h m s F c) _
      refine am_E.go (t2 := (21, [vR o, vI t, vI v, vI p, vI r, vI x], [vI x, vR (o + 1)], aq_h m s F c)) rfl rfl ?_
      refine aq_alt (ok := fun k => k == 0) rfl rfl (by omega) hFl rfl (by omega) (by omega) ?_
      show am_E _ (22, [vR o, vI t, vI v, vI p, vI r, vI x], [vI (tl x)], aq_h m s F c) _
      refine am_E.go (t2 := (23, [vR o, vI t, vI v, vI p, vI r, vI x], [vI t, vI (tl x)], aq_h m s F c)) rfl rfl ?_
      refine ae_icmp rfl (fun (q_2 : (tl x) ≠ t) => ?_) (fun (q_2 : (tl x) = t) => ?_)
      · refine ae_iinc rfl rfl (am_ri (by omega) (by omega)) ?_
        show am_E _ (47, [vR o, vI t, vI v, vI p, vI r, vI (x + 1)], [], aq_h m s F c) _
        refine am_E.go (t2 := (6, [vR o, vI t, vI v, vI p, vI r, vI (x + 1)], [], aq_h m s F c)) rfl rfl ?_
        exact qn_fillTable_l ⟨hm, hn1, hn4, hz6, hFo, hFl, hFg, hFt, hFp, hFq, hFd, hFs, hht⟩ hSs hSt hp d r (x + 1) c hs (by omega) (by omega) (by omega) (by omega)
      · refine am_E.go (t2 := (27, [vR o, vI t, vI v, vI p, vI r, vI x], [vR o], aq_h m s F c)) rfl rfl ?_
        refine am_E.go (t2 := (28, [vR o, vI t, vI v, vI p, vI r, vI x], [vR o, vR o], aq_h m s F c)) rfl rfl ?_
        refine aq_gf (v := vR (o + 2)) rfl (by omega) hFo (by decide) rfl ?_
        show am_E _ (31, [vR o, vI t, vI v, vI p, vI r, vI x], [vR (o + 2), vR o], aq_h m s F c) _
        refine am_E.go (t2 := (33, [vR o, vI t, vI v, vI p, vI r, vI x], [vI r, vR (o + 2), vR o], aq_h m s F c)) rfl rfl ?_
        refine aq_al (ok := fun k => decide (3 ≤ k) && decide (k < 7)) (v := vR (o + 3 + r.toNat)) rfl rfl (by omega) hFg rfl (by omega) (by omega) rfl ?_
        show am_E _ (34, [vR o, vI t, vI v, vI p, vI r, vI x], [vR (o + 3 + r.toNat), vR o], aq_h m s F c) _
        refine am_E.go (t2 := (36, [vR o, vI t, vI v, vI p, vI r, vI x], [vI x, vR (o + 3 + r.toNat), vR o], aq_h m s F c)) rfl rfl ?_
        refine am_E.go (t2 := (37, [vR o, vI t, vI v, vI p, vI r, vI x], [vI v, vI x, vR (o + 3 + r.toNat), vR o], aq_h m s F c)) rfl rfl ?_
        refine am_E.go (t2 := (38, [vR o, vI t, vI v, vI p, vI r, vI x], [vI p, vI v, vI x, vR (o + 3 + r.toNat), vR o], aq_h m s F c)) rfl rfl ?_
        refine aq_callv (y := 5) (as2 := [vR (o + 3 + r.toNat), vI x, vI v, vI p]) (rest := []) rfl rfl (by decide) (Nat.le_of_ble_eq_true rfl) rfl rfl (Nat.le_of_ble_eq_true rfl) (by omega) hFo rfl (Nat.le_of_ble_eq_true rfl) (qn_X2_fillRow ⟨hm, hn1, hn4, hz6, hFo, hFl, hFg, hFt, hFp, hFq, hFd, hFs, hht⟩ hSs hSt (by omega) (by omega) (by omega) (by omega) (by omega)) ?_
        rintro r5 h5 ⟨c_3, rfl, sc_3, rfl⟩
        show am_E _ (41, [vR o, vI t, vI v, vI p, vI r, vI x], [], aq_h m s F c_3) _
        refine ae_iinc rfl rfl (am_ri (by omega) (by omega)) ?_
        show am_E _ (44, [vR o, vI t, vI v, vI p, vI (r + 1), vI x], [], aq_h m s F c_3) _
        refine ae_iinc rfl rfl (am_ri (by omega) (by omega)) ?_
        show am_E _ (47, [vR o, vI t, vI v, vI p, vI (r + 1), vI (x + 1)], [], aq_h m s F c_3) _
        refine am_E.go (t2 := (6, [vR o, vI t, vI v, vI p, vI (r + 1), vI (x + 1)], [], aq_h m s F c_3)) rfl rfl ?_
        exact qn_fillTable_l ⟨hm, hn1, hn4, hz6, hFo, hFl, hFg, hFt, hFp, hFq, hFd, hFs, hht⟩ hSs hSt hp d (r + 1) (x + 1) c_3 (aq_smt hs sc_3) (by omega) (by omega) (by omega) (by omega)

theorem qn_X2_fillTable {m s : Nat} {F : aq_F} {c : aq_C} {S : Nat → Prop} {o n z : Nat} {tl : Int → Int} {th : Int → Int → Int} (hH : hv_0 m F o n z tl th) (hSs : S (o + 17)) (hSt : ∀ j, j < 6 → S (o + 3 + j)) {t v p : Int} (hp : p ≠ 0) : am_E ac_X2_fillTable (0, [vR o, vI t, vI v, vI p, vU, vU], [], aq_h m s F c) (aq_Z m s F S c (fun r _ => ∃ v, r = some (vI v) ∧ (0 ≤ v ∧ v ≤ (z : Int)))) := by
  obtain ⟨hm, hn1, hn4, hz6, hFo, hFl, hFg, hFt, hFp, hFq, hFd, hFs, hht⟩ := hH
  refine am_E.go (t2 := (1, [vR o, vI t, vI v, vI p, vU, vU], [vI 0], aq_h m s F c)) rfl rfl ?_
  refine am_E.go (t2 := (3, [vR o, vI t, vI v, vI p, vI 0, vU], [], aq_h m s F c)) rfl rfl ?_
  refine am_E.go (t2 := (4, [vR o, vI t, vI v, vI p, vI 0, vU], [vI 0], aq_h m s F c)) rfl rfl ?_
  refine am_E.go (t2 := (6, [vR o, vI t, vI v, vI p, vI 0, vI 0], [], aq_h m s F c)) rfl rfl ?_
  exact qn_fillTable_l ⟨hm, hn1, hn4, hz6, hFo, hFl, hFg, hFt, hFp, hFq, hFd, hFs, hht⟩ hSs hSt hp 7 0 0 c aq_sm0 (by omega) (by omega) (by omega) (by omega)

theorem qn_swapRows_l {m s : Nat} {F : aq_F} {c0 : aq_C} {S : Nat → Prop} {o n z : Nat} {tl : Int → Int} {th : Int → Int → Int} (hH : hv_0 m F o n z tl th) (hSs : S (o + 17)) (hSt : ∀ j, j < 6 → S (o + 3 + j)) {i j r : Int} (hi0 : 0 ≤ i) (hi6 : i < 6) (hj0 : 0 ≤ j) (hj6 : j < 6) (hr6 : r ≤ 6) : ∀ (d : Nat) (q : Int) (v5 : am_V) (c : aq_C) (hs : aq_sm S c0 c) (h0 : 0 ≤ q) (h1 : q ≤ 6) (hd : max 0 (r - q) < (d : Int)), am_E ac_X2_swapRows (3, [vR o, vI i, vI j, vI r, vI q, v5], [], aq_h m s F c) (aq_Z m s F S c0 (fun r _ => r = none))
  | 0, q, v5, c, hs, h0, h1, hd => by exfalso; omega
  | d + 1, q, v5, c, hs, h0, h1, hd => by
    obtain ⟨hm, hn1, hn4, hz6, hFo, hFl, hFg, hFt, hFp, hFq, hFd, hFs, hht⟩ := hH
    refine am_E.go (t2 := (5, [vR o, vI i, vI j, vI r, vI q, v5], [vI q], aq_h m s F c)) rfl rfl ?_
    refine am_E.go (t2 := (6, [vR o, vI i, vI j, vI r, vI q, v5], [vI r, vI q], aq_h m s F c)) rfl rfl ?_
    refine ae_icmp rfl (fun (q_1 : r ≤ q) => ?_) (fun (q_1 : q < r) => ?_)
    · refine am_E.ret rfl rfl ?_
      exact ⟨_, rfl, hs, rfl⟩
    · refine am_E.go (t2 := (10, [vR o, vI i, vI j, vI r, vI q, v5], [vR o], aq_h m s F c)) rfl rfl ?_
      refine aq_gf (v := vR (o + 2)) rfl (by omega) hFo (by decide) rfl ?_
      show am_E _ (13, [vR o, vI i, vI j, vI r, vI q, v5], [vR (o + 2)], aq_h m s F c) _
      refine am_E.go (t2 := (14, [vR o, vI i, vI j, vI r, vI q, v5], [vI i, vR (o + 2)], aq_h m s F c)) rfl rfl ?_
      refine aq_al (ok := fun k => decide (3 ≤ k) && decide (k < 7)) (v := vR (o + 3 + i.toNat)) rfl rfl (by omega) hFg rfl (by omega) (by omega) rfl ?_
      show am_E _ (15, [vR o, vI i, vI j, vI r, vI q, v5], [vR (o + 3 + i.toNat)], aq_h m s F c) _
      refine am_E.go (t2 := (17, [vR o, vI i, vI j, vI r, vI q, v5], [vI q, vR (o + 3 + i.toNat)], aq_h m s F c)) rfl rfl ?_
      refine aq_al (ok := fun k => k == 0) (v := vI (c (o + 3 + i.toNat) q)) rfl rfl (by omega) (hFt _ (by omega)) rfl (by omega) (by omega) rfl ?_
      show am_E _ (18, [vR o, vI i, vI j, vI r, vI q, v5], [vI (c (o + 3 + i.toNat) q)], aq_h m s F c) _
      refine am_E.go (t2 := (20, [vR o, vI i, vI j, vI r, vI q, vI (c (o + 3 + i.toNat) q)], [], aq_h m s F c)) rfl rfl ?_
      refine am_E.go (t2 := (21, [vR o, vI i, vI j, vI r, vI q, vI (c (o + 3 + i.toNat) q)], [vR o], aq_h m s F c)) rfl rfl ?_
      refine aq_gf (v := vR (o + 2)) rfl (by omega) hFo (by decide) rfl ?_
      show am_E _ (24, [vR o, vI i, vI j, vI r, vI q, vI (c (o + 3 + i.toNat) q)], [vR (o + 2)], aq_h m s F c) _
      refine am_E.go (t2 := (25, [vR o, vI i, vI j, vI r, vI q, vI (c (o + 3 + i.toNat) q)], [vI i, vR (o + 2)], aq_h m s F c)) rfl rfl ?_
      refine aq_al (ok := fun k => decide (3 ≤ k) && decide (k < 7)) (v := vR (o + 3 + i.toNat)) rfl rfl (by omega) hFg rfl (by omega) (by omega) rfl ?_
      show am_E _ (26, [vR o, vI i, vI j, vI r, vI q, vI (c (o + 3 + i.toNat) q)], [vR (o + 3 + i.toNat)], aq_h m s F c) _
      refine am_E.go (t2 := (28, [vR o, vI i, vI j, vI r, vI q, vI (c (o + 3 + i.toNat) q)], [vI q, vR (o + 3 + i.toNat)], aq_h m s F c)) rfl rfl ?_
      refine am_E.go (t2 := (29, [vR o, vI i, vI j, vI r, vI q, vI (c (o + 3 + i.toNat) q)], [vR o, vI q, vR (o + 3 + i.toNat)], aq_h m s F c)) rfl rfl ?_
      refine aq_gf (v := vR (o + 2)) rfl (by omega) hFo (by decide) rfl ?_
      show am_E _ (32, [vR o, vI i, vI j, vI r, vI q, vI (c (o + 3 + i.toNat) q)], [vR (o + 2), vI q, vR (o + 3 + i.toNat)], aq_h m s F c) _
      refine am_E.go (t2 := (33, [vR o, vI i, vI j, vI r, vI q, vI (c (o + 3 + i.toNat) q)], [vI j, vR (o + 2), vI q, vR (o + 3 + i.toNat)], aq_h m s F c)) rfl rfl ?_
      refine aq_al (ok := fun k => decide (3 ≤ k) && decide (k < 7)) (v := vR (o + 3 + j.toNat)) rfl rfl (by omega) hFg rfl (by omega) (by omega) rfl ?_
      show am_E _ (34, [vR o, vI i, vI j, vI r, vI q, vI (c (o + 3 + i.toNat) q)], [vR (o + 3 + j.toNat), vI q, vR (o + 3 + i.toNat)], aq_h m s F c) _
      refine am_E.go (t2 := (36, [vR o, vI i, vI j, vI r, vI q, vI (c (o + 3 + i.toNat) q)], [vI q, vR (o + 3 + j.toNat), vI q, vR (o + 3 + i.toNat)], aq_h m s F c)) rfl rfl ?_
      refine aq_al (ok := fun k => k == 0) (v := vI (c (o + 3 + j.toNat) q)) rfl rfl (by omega) (hFt _ (by omega)) rfl (by omega) (by omega) rfl ?_
      show am_E _ (37, [vR o, vI i, vI j, vI r, vI q, vI (c (o + 3 + i.toNat) q)], [vI (c (o + 3 + j.toNat) q), vI q, vR (o + 3 + i.toNat)], aq_h m s F c) _
      refine aq_as (kd := 0) rfl rfl (by omega) (hFt _ (by omega)) (by omega) (by omega) rfl rfl ?_
      show am_E _ (38, [vR o, vI i, vI j, vI r, vI q, vI (c (o + 3 + i.toNat) q)], [], aq_h m s F (aq_u c (o + 3 + i.toNat) q (c (o + 3 + j.toNat) q))) _
      generalize hdc_2 : aq_u c (o + 3 + i.toNat) q (c (o + 3 + j.toNat) q) = c_2
      have sc_2 := aq_smu hs hdc_2 (hSt _ (by omega))
      refine am_E.go (t2 := (39, [vR o, vI i, vI j, vI r, vI q, vI (c (o + 3 + i.toNat) q)], [vR o], aq_h m s F c_2)) rfl rfl ?_
      refine aq_gf (v := vR (o + 2)) rfl (by omega) hFo (by decide) rfl ?_
      show am_E _ (42, [vR o, vI i, vI j, vI r, vI q, vI (c (o + 3 + i.toNat) q)], [vR (o + 2)], aq_h m s F c_2) _
      refine am_E.go (t2 := (43, [vR o, vI i, vI j, vI r, vI q, vI (c (o + 3 + i.toNat) q)], [vI j, vR (o + 2)], aq_h m s F c_2)) rfl rfl ?_
      refine aq_al (ok := fun k => decide (3 ≤ k) && decide (k < 7)) (v := vR (o + 3 + j.toNat)) rfl rfl (by omega) hFg rfl (by omega) (by omega) rfl ?_
      show am_E _ (44, [vR o, vI i, vI j, vI r, vI q, vI (c (o + 3 + i.toNat) q)], [vR (o + 3 + j.toNat)], aq_h m s F c_2) _
      refine am_E.go (t2 := (46, [vR o, vI i, vI j, vI r, vI q, vI (c (o + 3 + i.toNat) q)], [vI q, vR (o + 3 + j.toNat)], aq_h m s F c_2)) rfl rfl ?_
      refine am_E.go (t2 := (48, [vR o, vI i, vI j, vI r, vI q, vI (c (o + 3 + i.toNat) q)], [vI (c (o + 3 + i.toNat) q), vI q, vR (o + 3 + j.toNat)], aq_h m s F c_2)) rfl rfl ?_
      refine aq_as (kd := 0) rfl rfl (by omega) (hFt _ (by omega)) (by omega) (by omega) rfl rfl ?_
      show am_E _ (49, [vR o, vI i, vI j, vI r, vI q, vI (c (o + 3 + i.toNat) q)], [], aq_h m s F (aq_u c_2 (o + 3 + j.toNat) q (c (o + 3 + i.toNat) q))) _
      generalize hdc_3 : aq_u c_2 (o + 3 + j.toNat) q (c (o + 3 + i.toNat) q) = c_3
      have sc_3 := aq_smu sc_2 hdc_3 (hSt _ (by omega))
      refine ae_iinc rfl rfl (am_ri (by omega) (by omega)) ?_
      show am_E _ (52, [vR o, vI i, vI j, vI r, vI (q + 1), vI (c (o + 3 + i.toNat) q)], [], aq_h m s F c_3) _
      refine am_E.go (t2 := (3, [vR o, vI i, vI j, vI r, vI (q + 1), vI (c (o + 3 + i.toNat) q)], [], aq_h m s F c_3)) rfl rfl ?_
      exact qn_swapRows_l ⟨hm, hn1, hn4, hz6, hFo, hFl, hFg, hFt, hFp, hFq, hFd, hFs, hht⟩ hSs hSt hi0 hi6 hj0 hj6 hr6 d (q + 1) (vI (c (o + 3 + i.toNat) q)) c_3 sc_3 (by omega) (by omega) (by omega)

theorem qn_X2_swapRows {m s : Nat} {F : aq_F} {c : aq_C} {S : Nat → Prop} {o n z : Nat} {tl : Int → Int} {th : Int → Int → Int} (hH : hv_0 m F o n z tl th) (hSs : S (o + 17)) (hSt : ∀ j, j < 6 → S (o + 3 + j)) {i j r : Int} (hi0 : 0 ≤ i) (hi6 : i < 6) (hj0 : 0 ≤ j) (hj6 : j < 6) (hr6 : r ≤ 6) : am_E ac_X2_swapRows (0, [vR o, vI i, vI j, vI r, vU, vU], [], aq_h m s F c) (aq_Z m s F S c (fun r _ => r = none)) := by
  obtain ⟨hm, hn1, hn4, hz6, hFo, hFl, hFg, hFt, hFp, hFq, hFd, hFs, hht⟩ := hH
  refine am_E.go (t2 := (1, [vR o, vI i, vI j, vI r, vU, vU], [vI 0], aq_h m s F c)) rfl rfl ?_
  refine am_E.go (t2 := (3, [vR o, vI i, vI j, vI r, vI 0, vU], [], aq_h m s F c)) rfl rfl ?_
  exact qn_swapRows_l ⟨hm, hn1, hn4, hz6, hFo, hFl, hFg, hFt, hFp, hFq, hFd, hFs, hht⟩ hSs hSt hi0 hi6 hj0 hj6 hr6 8 0 (vU) c aq_sm0 (by omega) (by omega) (by omega)

theorem qn_clearBelow_in {m s : Nat} {F : aq_F} {c0 : aq_C} {S : Nat → Prop} {o n z : Nat} {tl : Int → Int} {th : Int → Int → Int} (hH : hv_0 m F o n z tl th) (hSs : S (o + 17)) (hSt : ∀ j, j < 6 → S (o + 3 + j)) {h q r p : Int} (hh0 : 0 ≤ h) (hh6 : h < 6) (hq0 : 0 ≤ q) (hq6 : q < 6) (hr6 : r ≤ 6) (hp : p ≠ 0) : ∀ (d : Nat) (top : Int) (i : Int) (w : Int) (j : Int) (c : aq_C) (hs : aq_sm S c0 c) (h0 : 0 ≤ i) (h1 : i < 6) (h2 : 0 ≤ j) (h3 : j ≤ 6) (hd : max 0 (r - j) < (d : Int)) (K0 : ∀ (j2 : Int) (c2 : aq_C) (hs2 : aq_sm S c0 c2), am_E ac_X2_clearBelow (88, [vR o, vI h, vI q, vI r, vI p, vI top, vI i, vI w, vI j2], [], aq_h m s F c2) (aq_Z m s F S c0 (fun r _ => r = none))), am_E ac_X2_clearBelow (35, [vR o, vI h, vI q, vI r, vI p, vI top, vI i, vI w, vI j], [], aq_h m s F c) (aq_Z m s F S c0 (fun r _ => r = none))
  | 0, top, i, w, j, c, hs, h0, h1, h2, h3, hd, K0 => by exfalso; omega
  | d + 1, top, i, w, j, c, hs, h0, h1, h2, h3, hd, K0 => by
    obtain ⟨hm, hn1, hn4, hz6, hFo, hFl, hFg, hFt, hFp, hFq, hFd, hFs, hht⟩ := hH
    refine am_E.go (t2 := (37, [vR o, vI h, vI q, vI r, vI p, vI top, vI i, vI w, vI j], [vI j], aq_h m s F c)) rfl rfl ?_
    refine am_E.go (t2 := (38, [vR o, vI h, vI q, vI r, vI p, vI top, vI i, vI w, vI j], [vI r, vI j], aq_h m s F c)) rfl rfl ?_
    refine ae_icmp rfl (fun (q_1 : r ≤ j) => ?_) (fun (q_1 : j < r) => ?_)
    · exact K0 j c hs
    · refine am_E.go (t2 := (42, [vR o, vI h, vI q, vI r, vI p, vI top, vI i, vI w, vI j], [vR o], aq_h m s F c)) rfl rfl ?_
      refine aq_gf (v := vR (o + 2)) rfl (by omega) hFo (by decide) rfl ?_
      show am_E _ (45, [vR o, vI h, vI q, vI r, vI p, vI top, vI i, vI w, vI j], [vR (o + 2)], aq_h m s F c) _
      refine am_E.go (t2 := (47, [vR o, vI h, vI q, vI r, vI p, vI top, vI i, vI w, vI j], [vI i, vR (o + 2)], aq_h m s F c)) rfl rfl ?_
      refine aq_al (ok := fun k => decide (3 ≤ k) && decide (k < 7)) (v := vR (o + 3 + i.toNat)) rfl rfl (by omega) hFg rfl (by omega) (by omega) rfl ?_
      show am_E _ (48, [vR o, vI h, vI q, vI r, vI p, vI top, vI i, vI w, vI j], [vR (o + 3 + i.toNat)], aq_h m s F c) _
      refine am_E.go (t2 := (50, [vR o, vI h, vI q, vI r, vI p, vI top, vI i, vI w, vI j], [vI j, vR (o + 3 + i.toNat)], aq_h m s F c)) rfl rfl ?_
      refine am_E.go (t2 := (51, [vR o, vI h, vI q, vI r, vI p, vI top, vI i, vI w, vI j], [vR o, vI j, vR (o + 3 + i.toNat)], aq_h m s F c)) rfl rfl ?_
      refine aq_gf (v := vR (o + 2)) rfl (by omega) hFo (by decide) rfl ?_
      show am_E _ (54, [vR o, vI h, vI q, vI r, vI p, vI top, vI i, vI w, vI j], [vR (o + 2), vI j, vR (o + 3 + i.toNat)], aq_h m s F c) _
      refine am_E.go (t2 := (56, [vR o, vI h, vI q, vI r, vI p, vI top, vI i, vI w, vI j], [vI i, vR (o + 2), vI j, vR (o + 3 + i.toNat)], aq_h m s F c)) rfl rfl ?_
      refine aq_al (ok := fun k => decide (3 ≤ k) && decide (k < 7)) (v := vR (o + 3 + i.toNat)) rfl rfl (by omega) hFg rfl (by omega) (by omega) rfl ?_
      show am_E _ (57, [vR o, vI h, vI q, vI r, vI p, vI top, vI i, vI w, vI j], [vR (o + 3 + i.toNat), vI j, vR (o + 3 + i.toNat)], aq_h m s F c) _
      refine am_E.go (t2 := (59, [vR o, vI h, vI q, vI r, vI p, vI top, vI i, vI w, vI j], [vI j, vR (o + 3 + i.toNat), vI j, vR (o + 3 + i.toNat)], aq_h m s F c)) rfl rfl ?_
      refine aq_al (ok := fun k => k == 0) (v := vI (c (o + 3 + i.toNat) j)) rfl rfl (by omega) (hFt _ (by omega)) rfl (by omega) (by omega) rfl ?_
      show am_E _ (60, [vR o, vI h, vI q, vI r, vI p, vI top, vI i, vI w, vI j], [vI (c (o + 3 + i.toNat) j), vI j, vR (o + 3 + i.toNat)], aq_h m s F c) _
      refine am_E.go (t2 := (62, [vR o, vI h, vI q, vI r, vI p, vI top, vI i, vI w, vI j], [vI top, vI (c (o + 3 + i.toNat) j), vI j, vR (o + 3 + i.toNat)], aq_h m s F c)) rfl rfl ?_
      refine am_E.go (t2 := (63, [vR o, vI h, vI q, vI r, vI p, vI top, vI i, vI w, vI j], [vI (am_w ((c (o + 3 + i.toNat) j) * top)), vI j, vR (o + 3 + i.toNat)], aq_h m s F c)) rfl rfl ?_
      refine am_E.go (t2 := (64, [vR o, vI h, vI q, vI r, vI p, vI top, vI i, vI w, vI j], [vR o, vI (am_w ((c (o + 3 + i.toNat) j) * top)), vI j, vR (o + 3 + i.toNat)], aq_h m s F c)) rfl rfl ?_
      refine aq_gf (v := vR (o + 2)) rfl (by omega) hFo (by decide) rfl ?_
      show am_E _ (67, [vR o, vI h, vI q, vI r, vI p, vI top, vI i, vI w, vI j], [vR (o + 2), vI (am_w ((c (o + 3 + i.toNat) j) * top)), vI j, vR (o + 3 + i.toNat)], aq_h m s F c) _
      refine am_E.go (t2 := (68, [vR o, vI h, vI q, vI r, vI p, vI top, vI i, vI w, vI j], [vI h, vR (o + 2), vI (am_w ((c (o + 3 + i.toNat) j) * top)), vI j, vR (o + 3 + i.toNat)], aq_h m s F c)) rfl rfl ?_
      refine aq_al (ok := fun k => decide (3 ≤ k) && decide (k < 7)) (v := vR (o + 3 + h.toNat)) rfl rfl (by omega) hFg rfl (by omega) (by omega) rfl ?_
      show am_E _ (69, [vR o, vI h, vI q, vI r, vI p, vI top, vI i, vI w, vI j], [vR (o + 3 + h.toNat), vI (am_w ((c (o + 3 + i.toNat) j) * top)), vI j, vR (o + 3 + i.toNat)], aq_h m s F c) _
      refine am_E.go (t2 := (71, [vR o, vI h, vI q, vI r, vI p, vI top, vI i, vI w, vI j], [vI j, vR (o + 3 + h.toNat), vI (am_w ((c (o + 3 + i.toNat) j) * top)), vI j, vR (o + 3 + i.toNat)], aq_h m s F c)) rfl rfl ?_
      refine aq_al (ok := fun k => k == 0) (v := vI (c (o + 3 + h.toNat) j)) rfl rfl (by omega) (hFt _ (by omega)) rfl (by omega) (by omega) rfl ?_
      show am_E _ (72, [vR o, vI h, vI q, vI r, vI p, vI top, vI i, vI w, vI j], [vI (c (o + 3 + h.toNat) j), vI (am_w ((c (o + 3 + i.toNat) j) * top)), vI j, vR (o + 3 + i.toNat)], aq_h m s F c) _
      refine am_E.go (t2 := (74, [vR o, vI h, vI q, vI r, vI p, vI top, vI i, vI w, vI j], [vI w, vI (c (o + 3 + h.toNat) j), vI (am_w ((c (o + 3 + i.toNat) j) * top)), vI j, vR (o + 3 + i.toNat)], aq_h m s F c)) rfl rfl ?_
      refine am_E.go (t2 := (75, [vR o, vI h, vI q, vI r, vI p, vI top, vI i, vI w, vI j], [vI (am_w ((c (o + 3 + h.toNat) j) * w)), vI (am_w ((c (o + 3 + i.toNat) j) * top)), vI j, vR (o + 3 + i.toNat)], aq_h m s F c)) rfl rfl ?_
      refine am_E.go (t2 := (76, [vR o, vI h, vI q, vI r, vI p, vI top, vI i, vI w, vI j], [vI (am_w ((am_w ((c (o + 3 + i.toNat) j) * top)) - (am_w ((c (o + 3 + h.toNat) j) * w)))), vI j, vR (o + 3 + i.toNat)], aq_h m s F c)) rfl rfl ?_
      refine am_E.go (t2 := (78, [vR o, vI h, vI q, vI r, vI p, vI top, vI i, vI w, vI j], [vI p, vI (am_w ((am_w ((c (o + 3 + i.toNat) j) * top)) - (am_w ((c (o + 3 + h.toNat) j) * w)))), vI j, vR (o + 3 + i.toNat)], aq_h m s F c)) rfl rfl ?_
      refine am_E.call rfl rfl rfl (Nat.le_of_ble_eq_true rfl) (rn_J9_floorMod (by omega) _) ?_
      rintro r5 h5 ⟨rfl, v_2, rfl⟩
      show am_E _ (81, [vR o, vI h, vI q, vI r, vI p, vI top, vI i, vI w, vI j], [vI v_2, vI j, vR (o + 3 + i.toNat)], aq_h m s F c) _
      refine aq_as (kd := 0) rfl rfl (by omega) (hFt _ (by omega)) (by omega) (by omega) rfl rfl ?_
      show am_E _ (82, [vR o, vI h, vI q, vI r, vI p, vI top, vI i, vI w, vI j], [], aq_h m s F (aq_u c (o + 3 + i.toNat) j v_2)) _
      generalize hdc_3 : aq_u c (o + 3 + i.toNat) j v_2 = c_3
      have sc_3 := aq_smu hs hdc_3 (hSt _ (by omega))
      refine ae_iinc rfl rfl (am_ri (by omega) (by omega)) ?_
      show am_E _ (85, [vR o, vI h, vI q, vI r, vI p, vI top, vI i, vI w, vI (j + 1)], [], aq_h m s F c_3) _
      refine am_E.go (t2 := (35, [vR o, vI h, vI q, vI r, vI p, vI top, vI i, vI w, vI (j + 1)], [], aq_h m s F c_3)) rfl rfl ?_
      exact qn_clearBelow_in ⟨hm, hn1, hn4, hz6, hFo, hFl, hFg, hFt, hFp, hFq, hFd, hFs, hht⟩ hSs hSt hh0 hh6 hq0 hq6 hr6 hp d top i w (j + 1) c_3 sc_3 (by omega) (by omega) (by omega) (by omega) (by omega) K0

theorem qn_clearBelow_out {m s : Nat} {F : aq_F} {c0 : aq_C} {S : Nat → Prop} {o n z : Nat} {tl : Int → Int} {th : Int → Int → Int} (hH : hv_0 m F o n z tl th) (hSs : S (o + 17)) (hSt : ∀ j, j < 6 → S (o + 3 + j)) {h q r p : Int} (hh0 : 0 ≤ h) (hh6 : h < 6) (hq0 : 0 ≤ q) (hq6 : q < 6) (hr6 : r ≤ 6) (hp : p ≠ 0) : ∀ (d : Nat) (top : Int) (i : Int) (v7 : am_V) (v8 : am_V) (c : aq_C) (hs : aq_sm S c0 c) (h0 : 0 ≤ i) (h1 : i ≤ 6) (hd : max 0 (r - i) < (d : Int)), am_E ac_X2_clearBelow (15, [vR o, vI h, vI q, vI r, vI p, vI top, vI i, v7, v8], [], aq_h m s F c) (aq_Z m s F S c0 (fun r _ => r = none))
  | 0, top, i, v7, v8, c, hs, h0, h1, hd => by exfalso; omega
  | d + 1, top, i, v7, v8, c, hs, h0, h1, hd => by
    obtain ⟨hm, hn1, hn4, hz6, hFo, hFl, hFg, hFt, hFp, hFq, hFd, hFs, hht⟩ := hH
    refine am_E.go (t2 := (17, [vR o, vI h, vI q, vI r, vI p, vI top, vI i, v7, v8], [vI i], aq_h m s F c)) rfl rfl ?_
    refine am_E.go (t2 := (18, [vR o, vI h, vI q, vI r, vI p, vI top, vI i, v7, v8], [vI r, vI i], aq_h m s F c)) rfl rfl ?_
    refine ae_icmp rfl (fun (q_1 : r ≤ i) => ?_) (fun (q_1 : i < r) => ?_)
    · refine am_E.ret rfl rfl ?_
      exact ⟨_, rfl, hs, rfl⟩
    · refine am_E.go (t2 := (22, [vR o, vI h, vI q, vI r, vI p, vI top, vI i, v7, v8], [vR o], aq_h m s F c)) rfl rfl ?_
      refine aq_gf (v := vR (o + 2)) rfl (by omega) hFo (by decide) rfl ?_
      show am_E _ (25, [vR o, vI h, vI q, vI r, vI p, vI top, vI i, v7, v8], [vR (o + 2)], aq_h m s F c) _
      refine am_E.go (t2 := (27, [vR o, vI h, vI q, vI r, vI p, vI top, vI i, v7, v8], [vI i, vR (o + 2)], aq_h m s F c)) rfl rfl ?_
      refine aq_al (ok := fun k => decide (3 ≤ k) && decide (k < 7)) (v := vR (o + 3 + i.toNat)) rfl rfl (by omega) hFg rfl (by omega) (by omega) rfl ?_
      show am_E _ (28, [vR o, vI h, vI q, vI r, vI p, vI top, vI i, v7, v8], [vR (o + 3 + i.toNat)], aq_h m s F c) _
      refine am_E.go (t2 := (29, [vR o, vI h, vI q, vI r, vI p, vI top, vI i, v7, v8], [vI q, vR (o + 3 + i.toNat)], aq_h m s F c)) rfl rfl ?_
      refine aq_al (ok := fun k => k == 0) (v := vI (c (o + 3 + i.toNat) q)) rfl rfl (by omega) (hFt _ (by omega)) rfl (by omega) (by omega) rfl ?_
      show am_E _ (30, [vR o, vI h, vI q, vI r, vI p, vI top, vI i, v7, v8], [vI (c (o + 3 + i.toNat) q)], aq_h m s F c) _
      refine am_E.go (t2 := (32, [vR o, vI h, vI q, vI r, vI p, vI top, vI i, vI (c (o + 3 + i.toNat) q), v8], [], aq_h m s F c)) rfl rfl ?_
      refine am_E.go (t2 := (33, [vR o, vI h, vI q, vI r, vI p, vI top, vI i, vI (c (o + 3 + i.toNat) q), v8], [vI 0], aq_h m s F c)) rfl rfl ?_
      refine am_E.go (t2 := (35, [vR o, vI h, vI q, vI r, vI p, vI top, vI i, vI (c (o + 3 + i.toNat) q), vI 0], [], aq_h m s F c)) rfl rfl ?_
      refine qn_clearBelow_in ⟨hm, hn1, hn4, hz6, hFo, hFl, hFg, hFt, hFp, hFq, hFd, hFs, hht⟩ hSs hSt hh0 hh6 hq0 hq6 hr6 hp 8 top i (c (o + 3 + i.toNat) q) 0 c hs (by omega) (by omega) (by omega) (by omega) (by omega) ?_
      · intro j2_35 c_2 sc_2
        refine ae_iinc rfl rfl (am_ri (by omega) (by omega)) ?_
        show am_E _ (91, [vR o, vI h, vI q, vI r, vI p, vI top, vI (i + 1), vI (c (o + 3 + i.toNat) q), vI j2_35], [], aq_h m s F c_2) _
        refine am_E.go (t2 := (15, [vR o, vI h, vI q, vI r, vI p, vI top, vI (i + 1), vI (c (o + 3 + i.toNat) q), vI j2_35], [], aq_h m s F c_2)) rfl rfl ?_
        exact qn_clearBelow_out ⟨hm, hn1, hn4, hz6, hFo, hFl, hFg, hFt, hFp, hFq, hFd, hFs, hht⟩ hSs hSt hh0 hh6 hq0 hq6 hr6 hp d top (i + 1) (vI (c (o + 3 + i.toNat) q)) (vI j2_35) c_2 sc_2 (by omega) (by omega) (by omega)

theorem qn_X2_clearBelow {m s : Nat} {F : aq_F} {c : aq_C} {S : Nat → Prop} {o n z : Nat} {tl : Int → Int} {th : Int → Int → Int} (hH : hv_0 m F o n z tl th) (hSs : S (o + 17)) (hSt : ∀ j, j < 6 → S (o + 3 + j)) {h q r p : Int} (hh0 : 0 ≤ h) (hh6 : h < 6) (hq0 : 0 ≤ q) (hq6 : q < 6) (hr6 : r ≤ 6) (hp : p ≠ 0) : am_E ac_X2_clearBelow (0, [vR o, vI h, vI q, vI r, vI p, vU, vU, vU, vU], [], aq_h m s F c) (aq_Z m s F S c (fun r _ => r = none)) := by
  obtain ⟨hm, hn1, hn4, hz6, hFo, hFl, hFg, hFt, hFp, hFq, hFd, hFs, hht⟩ := hH
  refine am_E.go (t2 := (1, [vR o, vI h, vI q, vI r, vI p, vU, vU, vU, vU], [vR o], aq_h m s F c)) rfl rfl ?_
  refine aq_gf (v := vR (o + 2)) rfl (by omega) hFo (by decide) rfl ?_
  show am_E _ (4, [vR o, vI h, vI q, vI r, vI p, vU, vU, vU, vU], [vR (o + 2)], aq_h m s F c) _
  refine am_E.go (t2 := (5, [vR o, vI h, vI q, vI r, vI p, vU, vU, vU, vU], [vI h, vR (o + 2)], aq_h m s F c)) rfl rfl ?_
  refine aq_al (ok := fun k => decide (3 ≤ k) && decide (k < 7)) (v := vR (o + 3 + h.toNat)) rfl rfl (by omega) hFg rfl (by omega) (by omega) rfl ?_
  show am_E _ (6, [vR o, vI h, vI q, vI r, vI p, vU, vU, vU, vU], [vR (o + 3 + h.toNat)], aq_h m s F c) _
  refine am_E.go (t2 := (7, [vR o, vI h, vI q, vI r, vI p, vU, vU, vU, vU], [vI q, vR (o + 3 + h.toNat)], aq_h m s F c)) rfl rfl ?_
  refine aq_al (ok := fun k => k == 0) (v := vI (c (o + 3 + h.toNat) q)) rfl rfl (by omega) (hFt _ (by omega)) rfl (by omega) (by omega) rfl ?_
  show am_E _ (8, [vR o, vI h, vI q, vI r, vI p, vU, vU, vU, vU], [vI (c (o + 3 + h.toNat) q)], aq_h m s F c) _
  refine am_E.go (t2 := (10, [vR o, vI h, vI q, vI r, vI p, vI (c (o + 3 + h.toNat) q), vU, vU, vU], [], aq_h m s F c)) rfl rfl ?_
  refine am_E.go (t2 := (11, [vR o, vI h, vI q, vI r, vI p, vI (c (o + 3 + h.toNat) q), vU, vU, vU], [vI h], aq_h m s F c)) rfl rfl ?_
  refine am_E.go (t2 := (12, [vR o, vI h, vI q, vI r, vI p, vI (c (o + 3 + h.toNat) q), vU, vU, vU], [vI 1, vI h], aq_h m s F c)) rfl rfl ?_
  refine ae_add rfl (am_ri (by omega) (by omega)) ?_
  show am_E _ (13, [vR o, vI h, vI q, vI r, vI p, vI (c (o + 3 + h.toNat) q), vU, vU, vU], [vI (h + 1)], aq_h m s F c) _
  refine am_E.go (t2 := (15, [vR o, vI h, vI q, vI r, vI p, vI (c (o + 3 + h.toNat) q), vI (h + 1), vU, vU], [], aq_h m s F c)) rfl rfl ?_
  exact qn_clearBelow_out ⟨hm, hn1, hn4, hz6, hFo, hFl, hFg, hFt, hFp, hFq, hFd, hFs, hht⟩ hSs hSt hh0 hh6 hq0 hq6 hr6 hp 8 (c (o + 3 + h.toNat) q) (h + 1) (vU) (vU) c aq_sm0 (by omega) (by omega) (by omega)

theorem qn_rank_in {m s : Nat} {F : aq_F} {c0 : aq_C} {S : Nat → Prop} {o n z : Nat} {tl : Int → Int} {th : Int → Int → Int} (hH : hv_0 m F o n z tl th) (hSs : S (o + 17)) (hSt : ∀ j, j < 6 → S (o + 3 + j)) {t v p r : Int} (hp : p ≠ 0) (hr0 : 0 ≤ r) (hr6 : r ≤ 6) : ∀ (d : Nat) (d5 : Int) (q : Int) (w : Int) (c : aq_C) (hs : aq_sm S c0 c) (h0 : 0 ≤ q) (h1 : q < r) (h2 : 0 ≤ d5) (h3 : d5 ≤ w) (h4 : w ≤ r) (hd : r - w < (d : Int)) (K0 : ∀ (w2 : Int) (c2 : aq_C) (hs2 : aq_sm S c0 c2) (f1 : d5 ≤ w2) (f2 : w2 ≤ r), am_E ac_X2_rank (56, [vR o, vI t, vI v, vI p, vI r, vI d5, vI q, vI w2], [], aq_h m s F c2) (aq_Z m s F S c0 (fun r _ => aq_vi r))), am_E ac_X2_rank (30, [vR o, vI t, vI v, vI p, vI r, vI d5, vI q, vI w], [], aq_h m s F c) (aq_Z m s F S c0 (fun r _ => aq_vi r))
  | 0, d5, q, w, c, hs, h0, h1, h2, h3, h4, hd, K0 => by exfalso; omega
  | d + 1, d5, q, w, c, hs, h0, h1, h2, h3, h4, hd, K0 => by
    obtain ⟨hm, hn1, hn4, hz6, hFo, hFl, hFg, hFt, hFp, hFq, hFd, hFs, hht⟩ := hH
    refine am_E.go (t2 := (32, [vR o, vI t, vI v, vI p, vI r, vI d5, vI q, vI w], [vI w], aq_h m s F c)) rfl rfl ?_
    refine am_E.go (t2 := (34, [vR o, vI t, vI v, vI p, vI r, vI d5, vI q, vI w], [vI r, vI w], aq_h m s F c)) rfl rfl ?_
    refine ae_icmp rfl (fun (q_1 : r ≤ w) => ?_) (fun (q_1 : w < r) => ?_)
    · exact K0 w c hs (by omega) (by omega)
    · refine am_E.go (t2 := (38, [vR o, vI t, vI v, vI p, vI r, vI d5, vI q, vI w], [vR o], aq_h m s F c)) rfl rfl ?_
      refine aq_gf (v := vR (o + 2)) rfl (by omega) hFo (by decide) rfl ?_
      show am_E _ (41, [vR o, vI t, vI v, vI p, vI r, vI d5, vI q, vI w], [vR (o + 2)], aq_h m s F c) _
      refine am_E.go (t2 := (43, [vR o, vI t, vI v, vI p, vI r, vI d5, vI q, vI w], [vI w, vR (o + 2)], aq_h m s F c)) rfl rfl ?_
      refine aq_al (ok := fun k => decide (3 ≤ k) && decide (k < 7)) (v := vR (o + 3 + w.toNat)) rfl rfl (by omega) hFg rfl (by omega) (by omega) rfl ?_
      show am_E _ (44, [vR o, vI t, vI v, vI p, vI r, vI d5, vI q, vI w], [vR (o + 3 + w.toNat)], aq_h m s F c) _
      refine am_E.go (t2 := (46, [vR o, vI t, vI v, vI p, vI r, vI d5, vI q, vI w], [vI q, vR (o + 3 + w.toNat)], aq_h m s F c)) rfl rfl ?_
      refine aq_al (ok := fun k => k == 0) (v := vI (c (o + 3 + w.toNat) q)) rfl rfl (by omega) (hFt _ (by omega)) rfl (by omega) (by omega) rfl ?_
      show am_E _ (47, [vR o, vI t, vI v, vI p, vI r, vI d5, vI q, vI w], [vI (c (o + 3 + w.toNat) q)], aq_h m s F c) _
      refine ae_if0 rfl (fun (q_2 : (c (o + 3 + w.toNat) q) ≠ 0) => ?_) (fun (q_2 : (c (o + 3 + w.toNat) q) = 0) => ?_)
      · exact K0 w c hs (by omega) (by omega)
      · refine ae_iinc rfl rfl (am_ri (by omega) (by omega)) ?_
        show am_E _ (53, [vR o, vI t, vI v, vI p, vI r, vI d5, vI q, vI (w + 1)], [], aq_h m s F c) _
        refine am_E.go (t2 := (30, [vR o, vI t, vI v, vI p, vI r, vI d5, vI q, vI (w + 1)], [], aq_h m s F c)) rfl rfl ?_
        exact qn_rank_in ⟨hm, hn1, hn4, hz6, hFo, hFl, hFg, hFt, hFp, hFq, hFd, hFs, hht⟩ hSs hSt hp hr0 hr6 d d5 q (w + 1) c hs (by omega) (by omega) (by omega) (by omega) (by omega) (by omega) K0

theorem qn_rank_out {m s : Nat} {F : aq_F} {c0 : aq_C} {S : Nat → Prop} {o n z : Nat} {tl : Int → Int} {th : Int → Int → Int} (hH : hv_0 m F o n z tl th) (hSs : S (o + 17)) (hSt : ∀ j, j < 6 → S (o + 3 + j)) {t v p r : Int} (hp : p ≠ 0) (hr0 : 0 ≤ r) (hr6 : r ≤ 6) : ∀ (d : Nat) (d5 : Int) (q : Int) (v7 : am_V) (c : aq_C) (hs : aq_sm S c0 c) (h0 : 0 ≤ q) (h1 : q ≤ r) (h2 : 0 ≤ d5) (h3 : d5 ≤ q) (hd : r - q < (d : Int)), am_E ac_X2_rank (19, [vR o, vI t, vI v, vI p, vI r, vI d5, vI q, v7], [], aq_h m s F c) (aq_Z m s F S c0 (fun r _ => aq_vi r))
  | 0, d5, q, v7, c, hs, h0, h1, h2, h3, hd => by exfalso; omega
  | d + 1, d5, q, v7, c, hs, h0, h1, h2, h3, hd => by
    obtain ⟨hm, hn1, hn4, hz6, hFo, hFl, hFg, hFt, hFp, hFq, hFd, hFs, hht⟩ := hH
    refine am_E.go (t2 := (21, [vR o, vI t, vI v, vI p, vI r, vI d5, vI q, v7], [vI q], aq_h m s F c)) rfl rfl ?_
    refine am_E.go (t2 := (23, [vR o, vI t, vI v, vI p, vI r, vI d5, vI q, v7], [vI r, vI q], aq_h m s F c)) rfl rfl ?_
    refine ae_icmp rfl (fun (q_1 : r ≤ q) => ?_) (fun (q_1 : q < r) => ?_)
    · refine am_E.go (t2 := (95, [vR o, vI t, vI v, vI p, vI r, vI d5, vI q, v7], [vI d5], aq_h m s F c)) rfl rfl ?_
      refine am_E.ret rfl rfl ?_
      exact ⟨_, rfl, hs, _, rfl⟩
    · refine am_E.go (t2 := (28, [vR o, vI t, vI v, vI p, vI r, vI d5, vI q, v7], [vI d5], aq_h m s F c)) rfl rfl ?_
      refine am_E.go (t2 := (30, [vR o, vI t, vI v, vI p, vI r, vI d5, vI q, vI d5], [], aq_h m s F c)) rfl rfl ?_
      refine qn_rank_in ⟨hm, hn1, hn4, hz6, hFo, hFl, hFg, hFt, hFp, hFq, hFd, hFs, hht⟩ hSs hSt hp hr0 hr6 8 d5 q d5 c hs (by omega) (by omega) (by omega) (by omega) (by omega) (by omega) ?_
      · intro w2_30 c_2 sc_2 f1_30 f2_30
        refine am_E.go (t2 := (58, [vR o, vI t, vI v, vI p, vI r, vI d5, vI q, vI w2_30], [vI w2_30], aq_h m s F c_2)) rfl rfl ?_
        refine am_E.go (t2 := (60, [vR o, vI t, vI v, vI p, vI r, vI d5, vI q, vI w2_30], [vI r, vI w2_30], aq_h m s F c_2)) rfl rfl ?_
        refine ae_icmp rfl (fun (q_3 : r ≤ w2_30) => ?_) (fun (q_3 : w2_30 < r) => ?_)
        · refine ae_iinc rfl rfl (am_ri (by omega) (by omega)) ?_
          show am_E _ (90, [vR o, vI t, vI v, vI p, vI r, vI d5, vI (q + 1), vI w2_30], [], aq_h m s F c_2) _
          refine am_E.go (t2 := (19, [vR o, vI t, vI v, vI p, vI r, vI d5, vI (q + 1), vI w2_30], [], aq_h m s F c_2)) rfl rfl ?_
          exact qn_rank_out ⟨hm, hn1, hn4, hz6, hFo, hFl, hFg, hFt, hFp, hFq, hFd, hFs, hht⟩ hSs hSt hp hr0 hr6 d d5 (q + 1) (vI w2_30) c_2 sc_2 (by omega) (by omega) (by omega) (by omega) (by omega)
        · refine am_E.go (t2 := (64, [vR o, vI t, vI v, vI p, vI r, vI d5, vI q, vI w2_30], [vR o], aq_h m s F c_2)) rfl rfl ?_
          refine am_E.go (t2 := (66, [vR o, vI t, vI v, vI p, vI r, vI d5, vI q, vI w2_30], [vI w2_30, vR o], aq_h m s F c_2)) rfl rfl ?_
          refine am_E.go (t2 := (68, [vR o, vI t, vI v, vI p, vI r, vI d5, vI q, vI w2_30], [vI d5, vI w2_30, vR o], aq_h m s F c_2)) rfl rfl ?_
          refine am_E.go (t2 := (70, [vR o, vI t, vI v, vI p, vI r, vI d5, vI q, vI w2_30], [vI r, vI d5, vI w2_30, vR o], aq_h m s F c_2)) rfl rfl ?_
          refine aq_callv (y := 4) (as2 := [vI w2_30, vI d5, vI r]) (rest := []) rfl rfl (by decide) (Nat.le_of_ble_eq_true rfl) rfl rfl (Nat.le_of_ble_eq_true rfl) (by omega) hFo rfl (Nat.le_of_ble_eq_true rfl) (qn_X2_swapRows ⟨hm, hn1, hn4, hz6, hFo, hFl, hFg, hFt, hFp, hFq, hFd, hFs, hht⟩ hSs hSt (by omega) (by omega) (by omega) (by omega) (by omega)) ?_
          rintro r5 h5 ⟨c_4, rfl, sc_4, rfl⟩
          show am_E _ (73, [vR o, vI t, vI v, vI p, vI r, vI d5, vI q, vI w2_30], [], aq_h m s F c_4) _
          refine am_E.go (t2 := (74, [vR o, vI t, vI v, vI p, vI r, vI d5, vI q, vI w2_30], [vR o], aq_h m s F c_4)) rfl rfl ?_
          refine am_E.go (t2 := (76, [vR o, vI t, vI v, vI p, vI r, vI d5, vI q, vI w2_30], [vI d5, vR o], aq_h m s F c_4)) rfl rfl ?_
          refine am_E.go (t2 := (78, [vR o, vI t, vI v, vI p, vI r, vI d5, vI q, vI w2_30], [vI q, vI d5, vR o], aq_h m s F c_4)) rfl rfl ?_
          refine am_E.go (t2 := (80, [vR o, vI t, vI v, vI p, vI r, vI d5, vI q, vI w2_30], [vI r, vI q, vI d5, vR o], aq_h m s F c_4)) rfl rfl ?_
          refine am_E.go (t2 := (81, [vR o, vI t, vI v, vI p, vI r, vI d5, vI q, vI w2_30], [vI p, vI r, vI q, vI d5, vR o], aq_h m s F c_4)) rfl rfl ?_
          refine aq_callv (y := 5) (as2 := [vI d5, vI q, vI r, vI p]) (rest := []) rfl rfl (by decide) (Nat.le_of_ble_eq_true rfl) rfl rfl (Nat.le_of_ble_eq_true rfl) (by omega) hFo rfl (Nat.le_of_ble_eq_true rfl) (qn_X2_clearBelow ⟨hm, hn1, hn4, hz6, hFo, hFl, hFg, hFt, hFp, hFq, hFd, hFs, hht⟩ hSs hSt (by omega) (by omega) (by omega) (by omega) (by omega) (by omega)) ?_
          rintro r5 h5 ⟨c_6, rfl, sc_6, rfl⟩
          show am_E _ (84, [vR o, vI t, vI v, vI p, vI r, vI d5, vI q, vI w2_30], [], aq_h m s F c_6) _
          refine ae_iinc rfl rfl (am_ri (by omega) (by omega)) ?_
          show am_E _ (87, [vR o, vI t, vI v, vI p, vI r, vI (d5 + 1), vI q, vI w2_30], [], aq_h m s F c_6) _
          refine ae_iinc rfl rfl (am_ri (by omega) (by omega)) ?_
          show am_E _ (90, [vR o, vI t, vI v, vI p, vI r, vI (d5 + 1), vI (q + 1), vI w2_30], [], aq_h m s F c_6) _
          refine am_E.go (t2 := (19, [vR o, vI t, vI v, vI p, vI r, vI (d5 + 1), vI (q + 1), vI w2_30], [], aq_h m s F c_6)) rfl rfl ?_
          exact qn_rank_out ⟨hm, hn1, hn4, hz6, hFo, hFl, hFg, hFt, hFp, hFq, hFd, hFs, hht⟩ hSs hSt hp hr0 hr6 d (d5 + 1) (q + 1) (vI w2_30) c_6 (aq_smt (aq_smt sc_2 sc_4) sc_6) (by omega) (by omega) (by omega) (by omega) (by omega)

theorem qn_X2_rank {m s : Nat} {F : aq_F} {c : aq_C} {S : Nat → Prop} {o n z : Nat} {tl : Int → Int} {th : Int → Int → Int} (hH : hv_0 m F o n z tl th) (hSs : S (o + 17)) (hSt : ∀ j, j < 6 → S (o + 3 + j)) {t v p : Int} (hp : p ≠ 0) : am_E ac_X2_rank (0, [vR o, vI t, vI v, vI p, vU, vU, vU, vU], [], aq_h m s F c) (aq_Z m s F S c (fun r _ => aq_vi r)) := by
  obtain ⟨hm, hn1, hn4, hz6, hFo, hFl, hFg, hFt, hFp, hFq, hFd, hFs, hht⟩ := hH
  refine am_E.go (t2 := (1, [vR o, vI t, vI v, vI p, vU, vU, vU, vU], [vR o], aq_h m s F c)) rfl rfl ?_
  refine am_E.go (t2 := (2, [vR o, vI t, vI v, vI p, vU, vU, vU, vU], [vI t, vR o], aq_h m s F c)) rfl rfl ?_
  refine am_E.go (t2 := (3, [vR o, vI t, vI v, vI p, vU, vU, vU, vU], [vI v, vI t, vR o], aq_h m s F c)) rfl rfl ?_
  refine am_E.go (t2 := (4, [vR o, vI t, vI v, vI p, vU, vU, vU, vU], [vI p, vI v, vI t, vR o], aq_h m s F c)) rfl rfl ?_
  refine am_E.call rfl rfl rfl (Nat.le_of_ble_eq_true rfl) (rn_J9_floorMod (by omega) _) ?_
  rintro r5 h5 ⟨rfl, v_1, rfl⟩
  show am_E _ (7, [vR o, vI t, vI v, vI p, vU, vU, vU, vU], [vI v_1, vI t, vR o], aq_h m s F c) _
  refine am_E.go (t2 := (8, [vR o, vI t, vI v, vI p, vU, vU, vU, vU], [vI p, vI v_1, vI t, vR o], aq_h m s F c)) rfl rfl ?_
  refine aq_callv (y := 4) (as2 := [vI t, vI v_1, vI p]) (rest := []) rfl rfl (by decide) (Nat.le_of_ble_eq_true rfl) rfl rfl (Nat.le_of_ble_eq_true rfl) (by omega) hFo rfl (Nat.le_of_ble_eq_true rfl) (qn_X2_fillTable ⟨hm, hn1, hn4, hz6, hFo, hFl, hFg, hFt, hFp, hFq, hFd, hFs, hht⟩ hSs hSt (by omega)) ?_
  rintro r5 h5 ⟨c_2, rfl, sc_2, v_3, rfl, hv_3⟩
  show am_E _ (11, [vR o, vI t, vI v, vI p, vU, vU, vU, vU], [vI v_3], aq_h m s F c_2) _
  refine am_E.go (t2 := (13, [vR o, vI t, vI v, vI p, vI v_3, vU, vU, vU], [], aq_h m s F c_2)) rfl rfl ?_
  refine am_E.go (t2 := (14, [vR o, vI t, vI v, vI p, vI v_3, vU, vU, vU], [vI 0], aq_h m s F c_2)) rfl rfl ?_
  refine am_E.go (t2 := (16, [vR o, vI t, vI v, vI p, vI v_3, vI 0, vU, vU], [], aq_h m s F c_2)) rfl rfl ?_
  refine am_E.go (t2 := (17, [vR o, vI t, vI v, vI p, vI v_3, vI 0, vU, vU], [vI 0], aq_h m s F c_2)) rfl rfl ?_
  refine am_E.go (t2 := (19, [vR o, vI t, vI v, vI p, vI v_3, vI 0, vI 0, vU], [], aq_h m s F c_2)) rfl rfl ?_
  exact qn_rank_out ⟨hm, hn1, hn4, hz6, hFo, hFl, hFg, hFt, hFp, hFq, hFd, hFs, hht⟩ hSs hSt hp (by omega) (by omega) 8 0 0 (vU) c_2 (aq_smt aq_sm0 sc_2) (by omega) (by omega) (by omega) (by omega) (by omega)
end
section
/-! Copies in heaps of a fixed shape; Crossings and Sum: their shapes. -/
def aq_cp (c : aq_C) (a sp b dp n : Nat) : aq_C := fun x j => if x = b ∧ (dp : Int) ≤ j ∧ j < (dp : Int) + (n : Int) then c a ((sp : Int) + (j - (dp : Int))) else c x j
theorem aq_cph {m s : Nat} {F : aq_F} {c : aq_C} {a sp b dp n ka na nb t : Nat} (hF : F a = (ka, na, fun _ => .inl t)) (hG : F b = (ka, nb, fun _ => .inl t)) : am_cp (aq_h m s F c) a sp b dp n = aq_h m s F (aq_cp c a sp b dp n) := by
  have e : (fun x => if x = b then (((aq_h m s F c).2.2 b).1, ((aq_h m s F c).2.2 b).2.1, am_cpy ((aq_h m s F c).2.2 a).2.2 ((aq_h m s F c).2.2 b).2.2 sp dp n) else (aq_h m s F c).2.2 x) = (aq_h m s F (aq_cp c a sp b dp n)).2.2 := by
    funext x
    by_cases hx : x = b
    · subst hx
      rw [if_pos rfl, aq_hc hF, aq_hc hG, aq_hc hG]
      refine congrArg (fun f => (ka, nb, f)) ?_
      funext j
      unfold am_cpy aq_cp
      simp only [true_and]
      by_cases h : dp ≤ j ∧ j < dp + n
      · rw [if_pos h, if_pos (by omega)]
        congr 2
        omega
      · rw [if_neg h, if_neg (by omega)]
    · rw [if_neg hx]
      show ((F x).1, (F x).2.1, fun i => aq_w ((F x).2.2 i) (c x (i : Int))) = ((F x).1, (F x).2.1, fun i => aq_w ((F x).2.2 i) (aq_cp c a sp b dp n x (i : Int)))
      refine congrArg (fun f => ((F x).1, (F x).2.1, f)) ?_
      funext j
      unfold aq_cp
      rw [if_neg (fun h => hx h.1)]
  show (m, s, fun x => if x = b then (((aq_h m s F c).2.2 b).1, ((aq_h m s F c).2.2 b).2.1, am_cpy ((aq_h m s F c).2.2 a).2.2 ((aq_h m s F c).2.2 b).2.2 sp dp n) else (aq_h m s F c).2.2 x) = (m, s, (aq_h m s F (aq_cp c a sp b dp n)).2.2)
  rw [e]
theorem aq_cpy {C : am_C} {pc : Nat} {ls : List am_V} {Z : Option am_V → am_H → Prop} {m s : Nat} {F : aq_F} {c : aq_C} {j y a b ka na nb sp dp n t : Nat} {i1 i2 i3 : Int} (hrow : am_row C pc = some (.invokestatic j, 3, 901, y)) (ha : a < m) (hb : b < m) (hF : F a = (ka, na, fun _ => .inl t)) (hG : F b = (ka, nb, fun _ => .inl t)) (hk : ka = 0 ∨ ka = 2) (h1 : i1 = (sp : Int)) (h2 : i2 = (dp : Int)) (h3 : i3 = (n : Int)) (h4 : sp + n ≤ na) (h5 : dp + n ≤ nb) (k : am_E C (pc + 3, ls, [], aq_h m s F (aq_cp c a sp b dp n)) Z) : am_E C (pc, ls, [vI i3, vI i2, vR b, vI i1, vR a], aq_h m s F c) Z :=
  ae_copy (h := aq_h m s F c) hrow ha hb (aq_hc hF) (aq_hc hG) hk h1 h2 h3 h4 h5 (by rw [aq_cph hF hG]; exact k)
theorem aq_smc {S : Nat → Prop} {c d e : aq_C} {a sp b dp n : Nat} (h1 : aq_sm S c d) (he : aq_cp d a sp b dp n = e) (hb : S b) : aq_sm S c e := fun x hx j => by
  have hne : x ≠ b := fun q => hx (by rw [q]; exact hb)
  rw [← he]
  unfold aq_cp
  rw [if_neg (fun h => hne h.1), h1 x hx j]
def cr_t (x : Nat) : Nat → aq_T := fun y => match y with
  | 2 => .inr (vR (x + 1))
  | 3 => .inr (vR (x + 2))
  | _ => .inl 0
def cr_0 (m : Nat) (F : aq_F) (x : Nat) : Prop := x + 3 ≤ m ∧ F x = (11, 5, cr_t x) ∧ F (x + 1) = (0, 8, fun _ => .inl 0) ∧ F (x + 2) = (0, 81, fun _ => .inl 0)
/-- the row of crossings is well made -/
def cr_l (x : Nat) (c : aq_C) : Prop := 2 ≤ c x 0 ∧ c x 0 ≤ 4 ∧ 0 ≤ c x 1 ∧ c x 1 ≤ 8 ∧ ∀ i, 0 ≤ i → i < c x 1 → c (x + 1) i ≠ 0 ∧ -(c x 0) < c (x + 1) i ∧ c (x + 1) i < c x 0
def su_t (a : Nat) : Nat → aq_T := fun y => match y with
  | 2 => .inr (vR (a + 1))
  | 3 => .inr (vR (a + 2))
  | 4 => .inr (vR (a + 3))
  | _ => .inl 0
def su_0 (m : Nat) (F : aq_F) (a : Nat) : Prop := a + 4 ≤ m ∧ F a = (13, 5, su_t a) ∧ F (a + 1) = (0, 40, fun _ => .inl 0) ∧ F (a + 2) = (0, 40, fun _ => .inl 0) ∧ F (a + 3) = (2, 40, fun _ => .inl 2)
/-- how many boxes -/
def bx_K (n : Int) : Int := if n = 1 then 1 else if n = 2 then 3 else if n = 3 then 15 else 105
/-- a sum's size, and its boxes' numbers, are in range -/
def su_k (a : Nat) (k : Int) (c : aq_C) : Prop := 0 ≤ c a 1 ∧ c a 1 ≤ 40 ∧ ∀ i, 0 ≤ i → i < c a 1 → 0 ≤ c (a + 1) i ∧ c (a + 1) i < k
theorem nu_pc {f g : Int → Int} {N p : Int} (h : ∀ i, 0 ≤ i → i < N → f i = g i) (hp : 0 ≤ p) (hpN : p < N) (hf : f p ≤ N) : ∀ (d : Nat) (q a : Int), 0 ≤ q → nu_p f p d q a = nu_p g p d q a
  | 0, q, a, hq => rfl
  | d + 1, q, a, hq => by
    rw [nu_p, nu_p, ← h p hp hpN]
    by_cases e : q < f p
    · rw [if_pos e, if_pos e, h q hq (by omega)]
      exact nu_pc h hp hpN hf d (q + 1) _ (by omega)
    · rw [if_neg e, if_neg e]
theorem nu_oc {f g : Int → Int} {N : Int} (h : ∀ i, 0 ≤ i → i < N → f i = g i) (hf : ∀ i, 0 ≤ i → i < N → f i ≤ N) : ∀ (d : Nat) (p x ch : Int), 0 ≤ p → nu_o f N d p x ch = nu_o g N d p x ch
  | 0, p, x, ch, hp => rfl
  | d + 1, p, x, ch, hp => by
    rw [nu_o, nu_o]
    by_cases e : p < N
    · rw [if_pos e, if_pos e, ← h p hp e, nu_pc h hp e (hf p hp e) 9 (p + 1) 0 (by omega)]
      by_cases e2 : p < f p
      · rw [if_pos e2, if_pos e2]
        exact nu_oc h hf d (p + 1) _ _ (by omega)
      · rw [if_neg e2, if_neg e2]
        exact nu_oc h hf d (p + 1) _ _ (by omega)
    · rw [if_neg e, if_neg e]
theorem am_shi1 {k : Int} (h0 : 0 ≤ k) (h8 : k ≤ 8) : 1 ≤ am_shi 1 k ∧ am_shi 1 k ≤ 256 := by
  have h : k = 0 ∨ k = 1 ∨ k = 2 ∨ k = 3 ∨ k = 4 ∨ k = 5 ∨ k = 6 ∨ k = 7 ∨ k = 8 := by omega
  rcases h with h | h | h | h | h | h | h | h | h <;> subst h <;> decide
theorem ae_neg {C : am_C} {pc : Nat} {ls st : List am_V} {h : am_H} {Z : Option am_V → am_H → Prop} {x y : Nat} {a : Int} (hrow : am_row C pc = some (.ineg, 1, x, y)) (hr : am_r32 (-a)) (k : am_E C (pc + 1, ls, vI (-a) :: st, h) Z) : am_E C (pc, ls, vI a :: st, h) Z := by
  refine am_E.go hrow ?_ k
  show some (Sum.inl (pc + 1, ls, vI (am_w (-a)) :: st, h)) = _
  rw [am_w_id hr]
theorem rn_J9_abs {a : Int} (h1 : -2147483648 < a) (h2 : a < 2147483648) (h : am_H) : am_E ac_J9_abs_0f7a4 (0, [vI a], [], h) (fun r h2 => h2 = h ∧ ∃ v, r = some (vI v) ∧ ((0 ≤ a ∧ v = a) ∨ (a < 0 ∧ v = -a))) := by
  refine am_E.go (t2 := (1, [vI a], [vI a], h)) rfl rfl ?_
  refine ae_if0 rfl (fun (q : 0 ≤ a) => ?_) (fun (q : a < 0) => ?_)
  · refine am_E.go (t2 := (10, [vI a], [vI a], h)) rfl rfl ?_
    exact am_E.ret rfl rfl ⟨rfl, _, rfl, by omega⟩
  · refine am_E.go (t2 := (5, [vI a], [vI a], h)) rfl rfl ?_
    refine ae_neg rfl (am_ri (by omega) (by omega)) ?_
    refine am_E.go (t2 := (10, [vI a], [vI (-a)], h)) rfl rfl ?_
    exact am_E.ret rfl rfl ⟨rfl, _, rfl, by omega⟩
theorem rn_J9_absl {a : Int} (h : am_H) : am_E ac_J9_abs_067f4 (0, [vL a, vU], [], h) (fun r h2 => h2 = h ∧ ∃ v, r = some (vL v) ∧ ((0 ≤ a ∧ v = a) ∨ (a < 0 ∧ v = am_wl (-a)))) := by
  refine am_E.go (t2 := (1, [vL a, vU], [vL a], h)) rfl rfl ?_
  refine am_E.go (t2 := (2, [vL a, vU], [vL 0, vL a], h)) rfl rfl ?_
  refine am_E.go (t2 := (3, [vL a, vU], [vI (if a < 0 then -1 else if a = 0 then 0 else 1)], h)) rfl rfl ?_
  refine ae_if0 rfl (fun (q : 0 ≤ (if a < 0 then (-1 : Int) else if a = 0 then 0 else 1)) => ?_) (fun (q : (if a < 0 then (-1 : Int) else if a = 0 then 0 else 1) < 0) => ?_)
  · refine am_E.go (t2 := (12, [vL a, vU], [vL a], h)) rfl rfl ?_
    refine am_E.ret rfl rfl ⟨rfl, _, rfl, Or.inl ⟨?_, rfl⟩⟩
    split at q <;> omega
  · refine am_E.go (t2 := (7, [vL a, vU], [vL a], h)) rfl rfl ?_
    refine am_E.go (t2 := (8, [vL a, vU], [vL (am_wl (-a))], h)) rfl rfl ?_
    refine am_E.go (t2 := (12, [vL a, vU], [vL (am_wl (-a))], h)) rfl rfl ?_
    refine am_E.ret rfl rfl ⟨rfl, _, rfl, Or.inr ⟨?_, rfl⟩⟩
    by_cases e : a < 0
    · exact e
    · rw [if_neg e] at q
      split at q <;> omega
end
section
/-! Crossings: methods that a public call runs. Printed by wip/p20/sx/gCR.py. -/

theorem qn_X1_begin {m s : Nat} {F : aq_F} {c : aq_C} {x : Nat} (hX : cr_0 m F x) {n : Int} : am_E ac_X1_begin (0, [vR x, vI n], [], aq_h m s F c) (aq_Z m s F (fun a => a = x ∨ a = x + 1) c (fun r d => r = none ∧ d x 0 = n ∧ d x 1 = 0)) := by
  obtain ⟨hmx, hFx, hFl, hFw⟩ := hX
  refine am_E.go (t2 := (1, [vR x, vI n], [vR x], aq_h m s F c)) rfl rfl ?_
  refine am_E.go (t2 := (2, [vR x, vI n], [vI n, vR x], aq_h m s F c)) rfl rfl ?_
  refine aq_pf rfl (by omega) hFx (by decide) rfl rfl ?_
  show am_E _ (5, [vR x, vI n], [], aq_h m s F (aq_u c x 0 n)) _
  generalize hdc_1 : aq_u c x 0 n = c_1
  have sc_1 := aq_smu (aq_sm0 (S := fun a => a = x ∨ a = x + 1)) hdc_1 (Or.inl rfl)
  refine am_E.go (t2 := (6, [vR x, vI n], [vR x], aq_h m s F c_1)) rfl rfl ?_
  refine am_E.go (t2 := (7, [vR x, vI n], [vI 0, vR x], aq_h m s F c_1)) rfl rfl ?_
  refine aq_pf rfl (by omega) hFx (by decide) rfl rfl ?_
  show am_E _ (10, [vR x, vI n], [], aq_h m s F (aq_u c_1 x 1 0)) _
  generalize hdc_2 : aq_u c_1 x 1 0 = c_2
  have sc_2 := aq_smu sc_1 hdc_2 (Or.inl rfl)
  refine am_E.go (t2 := (11, [vR x, vI n], [vR x], aq_h m s F c_2)) rfl rfl ?_
  refine am_E.go (t2 := (12, [vR x, vI n], [vI 0, vR x], aq_h m s F c_2)) rfl rfl ?_
  refine aq_pf rfl (by omega) hFx (by decide) rfl rfl ?_
  show am_E _ (15, [vR x, vI n], [], aq_h m s F (aq_u c_2 x 4 0)) _
  generalize hdc_3 : aq_u c_2 x 4 0 = c_3
  have sc_3 := aq_smu sc_2 hdc_3 (Or.inl rfl)
  refine am_E.ret rfl rfl ?_
  refine ⟨_, rfl, sc_3, rfl, ?_⟩
  rw [← hdc_3, ← hdc_2, ← hdc_1]
  simp [aq_u]

theorem qn_X1_allows {m s : Nat} {F : aq_F} {c : aq_C} {x : Nat} (hX : cr_0 m F x) {l : Int} (h1 : 0 ≤ c x 0) (h2 : c x 0 ≤ 4) : am_E ac_X1_allows (0, [vR x, vI l], [], aq_h m s F c) (aq_P m s F c (fun r => ∃ v, r = some (vI v) ∧ ((v = 1 ∧ l ≠ 0 ∧ -(c x 0) < l ∧ l < c x 0) ∨ (v = 0 ∧ ¬ (l ≠ 0 ∧ -(c x 0) < l ∧ l < c x 0))))) := by
  obtain ⟨hmx, hFx, hFl, hFw⟩ := hX
  refine am_E.go (t2 := (1, [vR x, vI l], [vI l], aq_h m s F c)) rfl rfl ?_
  refine ae_if0 rfl (fun (q_1 : l = 0) => ?_) (fun (q_1 : l ≠ 0) => ?_)
  · refine am_E.go (t2 := (26, [vR x, vI l], [vI 0], aq_h m s F c)) rfl rfl ?_
    refine am_E.ret rfl rfl ?_
    exact ⟨rfl, _, rfl, by omega⟩
  · refine am_E.go (t2 := (5, [vR x, vI l], [vI l], aq_h m s F c)) rfl rfl ?_
    refine am_E.go (t2 := (6, [vR x, vI l], [vR x, vI l], aq_h m s F c)) rfl rfl ?_
    refine aq_gf (v := vI (c x 0)) rfl (by omega) hFx (by decide) rfl ?_
    show am_E _ (9, [vR x, vI l], [vI (c x 0), vI l], aq_h m s F c) _
    refine ae_neg rfl (am_ri (by omega) (by omega)) ?_
    show am_E _ (10, [vR x, vI l], [vI (-(c x 0)), vI l], aq_h m s F c) _
    refine ae_icmp rfl (fun (q_2 : l ≤ (-(c x 0))) => ?_) (fun (q_2 : (-(c x 0)) < l) => ?_)
    · refine am_E.go (t2 := (26, [vR x, vI l], [vI 0], aq_h m s F c)) rfl rfl ?_
      refine am_E.ret rfl rfl ?_
      exact ⟨rfl, _, rfl, by omega⟩
    · refine am_E.go (t2 := (14, [vR x, vI l], [vI l], aq_h m s F c)) rfl rfl ?_
      refine am_E.go (t2 := (15, [vR x, vI l], [vR x, vI l], aq_h m s F c)) rfl rfl ?_
      refine aq_gf (v := vI (c x 0)) rfl (by omega) hFx (by decide) rfl ?_
      show am_E _ (18, [vR x, vI l], [vI (c x 0), vI l], aq_h m s F c) _
      refine ae_icmp rfl (fun (q_3 : (c x 0) ≤ l) => ?_) (fun (q_3 : l < (c x 0)) => ?_)
      · refine am_E.go (t2 := (26, [vR x, vI l], [vI 0], aq_h m s F c)) rfl rfl ?_
        refine am_E.ret rfl rfl ?_
        exact ⟨rfl, _, rfl, by omega⟩
      · refine am_E.go (t2 := (22, [vR x, vI l], [vI 1], aq_h m s F c)) rfl rfl ?_
        refine am_E.go (t2 := (26, [vR x, vI l], [vI 1], aq_h m s F c)) rfl rfl ?_
        refine am_E.ret rfl rfl ?_
        exact ⟨rfl, _, rfl, by omega⟩

theorem qn_X1_append {m s : Nat} {F : aq_F} {c : aq_C} {x : Nat} (hX : cr_0 m F x) {l : Int} (h1 : 0 ≤ c x 1) : am_E ac_X1_append (0, [vR x, vI l], [], aq_h m s F c) (aq_Z m s F (fun a => a = x ∨ a = x + 1) c (fun r d => ∃ v, r = some (vI v) ∧ ((v = 0 ∧ 8 ≤ c x 1 ∧ d = c) ∨ (v = 1 ∧ c x 1 < 8 ∧ d x 0 = c x 0 ∧ d x 1 = c x 1 + 1 ∧ d (x + 1) (c x 1) = l ∧ ∀ i, i ≠ c x 1 → d (x + 1) i = c (x + 1) i)))) := by
  obtain ⟨hmx, hFx, hFl, hFw⟩ := hX
  have e1 : x + 1 ≠ x := by omega
  have e2 : x ≠ x + 1 := by omega
  refine am_E.go (t2 := (1, [vR x, vI l], [vR x], aq_h m s F c)) rfl rfl ?_
  refine aq_gf (v := vI (c x 1)) rfl (by omega) hFx (by decide) rfl ?_
  show am_E _ (4, [vR x, vI l], [vI (c x 1)], aq_h m s F c) _
  skip
  refine am_E.go (t2 := (6, [vR x, vI l], [vI 8, vI (c x 1)], aq_h m s F c)) rfl rfl ?_
  refine ae_icmp rfl (fun (q_2 : (c x 1) < 8) => ?_) (fun (q_2 : 8 ≤ (c x 1)) => ?_)
  · refine am_E.go (t2 := (12, [vR x, vI l], [vR x], aq_h m s F c)) rfl rfl ?_
    refine aq_gf (v := vR (x + 1)) rfl (by omega) hFx (by decide) rfl ?_
    show am_E _ (15, [vR x, vI l], [vR (x + 1)], aq_h m s F c) _
    refine am_E.go (t2 := (16, [vR x, vI l], [vR x, vR (x + 1)], aq_h m s F c)) rfl rfl ?_
    refine aq_gf (v := vI (c x 1)) rfl (by omega) hFx (by decide) rfl ?_
    show am_E _ (19, [vR x, vI l], [vI (c x 1), vR (x + 1)], aq_h m s F c) _
    skip
    refine am_E.go (t2 := (20, [vR x, vI l], [vI l, vI (c x 1), vR (x + 1)], aq_h m s F c)) rfl rfl ?_
    refine aq_as (kd := 0) rfl rfl (by omega) hFl (by omega) (by omega) rfl rfl ?_
    show am_E _ (21, [vR x, vI l], [], aq_h m s F (aq_u c (x + 1) (c x 1) l)) _
    generalize hdc_4 : aq_u c (x + 1) (c x 1) l = c_4
    have sc_4 := aq_smu (aq_sm0 (S := fun a => a = x ∨ a = x + 1)) hdc_4 (Or.inr rfl)
    refine am_E.go (t2 := (22, [vR x, vI l], [vR x], aq_h m s F c_4)) rfl rfl ?_
    refine am_E.go (t2 := (23, [vR x, vI l], [vR x, vR x], aq_h m s F c_4)) rfl rfl ?_
    refine aq_gf (v := vI (c_4 x 1)) rfl (by omega) hFx (by decide) rfl ?_
    show am_E _ (26, [vR x, vI l], [vI (c_4 x 1), vR x], aq_h m s F c_4) _
    have f_5 : c_4 x 1 = c x 1 := by rw [← hdc_4]; exact aq_un (Or.inl (by omega))
    refine am_E.go (t2 := (27, [vR x, vI l], [vI 1, vI (c_4 x 1), vR x], aq_h m s F c_4)) rfl rfl ?_
    refine ae_add rfl (am_ri (by omega) (by omega)) ?_
    show am_E _ (28, [vR x, vI l], [vI ((c_4 x 1) + 1), vR x], aq_h m s F c_4) _
    refine aq_pf rfl (by omega) hFx (by decide) rfl rfl ?_
    show am_E _ (31, [vR x, vI l], [], aq_h m s F (aq_u c_4 x 1 ((c_4 x 1) + 1))) _
    generalize hdc_6 : aq_u c_4 x 1 ((c_4 x 1) + 1) = c_6
    have sc_6 := aq_smu sc_4 hdc_6 (Or.inl rfl)
    refine am_E.go (t2 := (32, [vR x, vI l], [vR x], aq_h m s F c_6)) rfl rfl ?_
    refine am_E.go (t2 := (33, [vR x, vI l], [vI 0, vR x], aq_h m s F c_6)) rfl rfl ?_
    refine aq_pf rfl (by omega) hFx (by decide) rfl rfl ?_
    show am_E _ (36, [vR x, vI l], [], aq_h m s F (aq_u c_6 x 4 0)) _
    generalize hdc_7 : aq_u c_6 x 4 0 = c_7
    have sc_7 := aq_smu sc_6 hdc_7 (Or.inl rfl)
    refine am_E.go (t2 := (37, [vR x, vI l], [vI 1], aq_h m s F c_7)) rfl rfl ?_
    refine am_E.ret rfl rfl ?_
    refine ⟨_, rfl, sc_7, 1, rfl, Or.inr ⟨rfl, by omega, ?_⟩⟩
    have e1 : x + 1 ≠ x := by omega
    have e2 : x ≠ x + 1 := by omega
    rw [← hdc_7, ← hdc_6, ← hdc_4]
    simp [aq_u, e1, e2]
    intro i hi h9
    exact absurd h9 hi
  · refine am_E.go (t2 := (10, [vR x, vI l], [vI 0], aq_h m s F c)) rfl rfl ?_
    refine am_E.ret rfl rfl ?_
    exact ⟨_, rfl, (aq_sm0 (S := fun a => a = x ∨ a = x + 1)), 0, rfl, Or.inl ⟨rfl, by omega, rfl⟩⟩

theorem qn_X1_dropLast {m s : Nat} {F : aq_F} {c : aq_C} {x : Nat} (hX : cr_0 m F x) (h1 : 0 ≤ c x 1) (h2 : c x 1 ≤ 8) : am_E ac_X1_dropLast (0, [vR x], [], aq_h m s F c) (aq_Z m s F (fun a => a = x ∨ a = x + 1) c (fun r d => ∃ v, r = some (vI v) ∧ ((v = 0 ∧ c x 1 ≤ 0 ∧ d = c) ∨ (v = 1 ∧ 0 < c x 1 ∧ d x 0 = c x 0 ∧ d x 1 = c x 1 - 1 ∧ ∀ i, d (x + 1) i = c (x + 1) i)))) := by
  obtain ⟨hmx, hFx, hFl, hFw⟩ := hX
  refine am_E.go (t2 := (1, [vR x], [vR x], aq_h m s F c)) rfl rfl ?_
  refine aq_gf (v := vI (c x 1)) rfl (by omega) hFx (by decide) rfl ?_
  show am_E _ (4, [vR x], [vI (c x 1)], aq_h m s F c) _
  refine ae_if0 rfl (fun (q_1 : 0 < (c x 1)) => ?_) (fun (q_1 : (c x 1) ≤ 0) => ?_)
  · refine am_E.go (t2 := (10, [vR x], [vR x], aq_h m s F c)) rfl rfl ?_
    refine am_E.go (t2 := (11, [vR x], [vR x, vR x], aq_h m s F c)) rfl rfl ?_
    refine aq_gf (v := vI (c x 1)) rfl (by omega) hFx (by decide) rfl ?_
    show am_E _ (14, [vR x], [vI (c x 1), vR x], aq_h m s F c) _
    refine am_E.go (t2 := (15, [vR x], [vI 1, vI (c x 1), vR x], aq_h m s F c)) rfl rfl ?_
    refine ae_sub rfl (am_ri (by omega) (by omega)) ?_
    show am_E _ (16, [vR x], [vI ((c x 1) - 1), vR x], aq_h m s F c) _
    refine aq_pf rfl (by omega) hFx (by decide) rfl rfl ?_
    show am_E _ (19, [vR x], [], aq_h m s F (aq_u c x 1 ((c x 1) - 1))) _
    generalize hdc_2 : aq_u c x 1 ((c x 1) - 1) = c_2
    have sc_2 := aq_smu (aq_sm0 (S := fun a => a = x ∨ a = x + 1)) hdc_2 (Or.inl rfl)
    refine am_E.go (t2 := (20, [vR x], [vR x], aq_h m s F c_2)) rfl rfl ?_
    refine am_E.go (t2 := (21, [vR x], [vI 0, vR x], aq_h m s F c_2)) rfl rfl ?_
    refine aq_pf rfl (by omega) hFx (by decide) rfl rfl ?_
    show am_E _ (24, [vR x], [], aq_h m s F (aq_u c_2 x 4 0)) _
    generalize hdc_3 : aq_u c_2 x 4 0 = c_3
    have sc_3 := aq_smu sc_2 hdc_3 (Or.inl rfl)
    refine am_E.go (t2 := (25, [vR x], [vI 1], aq_h m s F c_3)) rfl rfl ?_
    refine am_E.ret rfl rfl ?_
    refine ⟨_, rfl, sc_3, 1, rfl, Or.inr ⟨rfl, by omega, ?_⟩⟩
    have e1 : x + 1 ≠ x := by omega
    rw [← hdc_3, ← hdc_2]
    simp [aq_u, e1]
  · refine am_E.go (t2 := (8, [vR x], [vI 0], aq_h m s F c)) rfl rfl ?_
    refine am_E.ret rfl rfl ?_
    exact ⟨_, rfl, (aq_sm0 (S := fun a => a = x ∨ a = x + 1)), 0, rfl, Or.inl ⟨rfl, by omega, rfl⟩⟩

theorem qn_addState_l {m s : Nat} {F : aq_F} {c0 : aq_C} {S : Nat → Prop} {x : Nat} (hX : cr_0 m F x) (hSw : S (x + 2)) {w t : Int} (ht0 : -1 ≤ t) (ht1 : t ≤ 100) : ∀ (d : Nat) (u : Int) (p : Int) (j : Int) (c : aq_C) (hs : aq_sm S c0 c) (h0 : 0 ≤ j) (h1 : j ≤ 101) (hd : max 0 (t + 1 - j) < (d : Int)), am_E ac_X1_addState (22, [vR x, vI w, vI t, vI u, vI p, vI j], [], aq_h m s F c) (aq_Z m s F S c0 (fun r _ => r = none))
  | 0, u, p, j, c, hs, h0, h1, hd => by exfalso; omega
  | d + 1, u, p, j, c, hs, h0, h1, hd => by
    obtain ⟨hmx, hFx, hFl, hFw⟩ := hX
    refine am_E.go (t2 := (24, [vR x, vI w, vI t, vI u, vI p, vI j], [vI j], aq_h m s F c)) rfl rfl ?_
    refine am_E.go (t2 := (25, [vR x, vI w, vI t, vI u, vI p, vI j], [vI t, vI j], aq_h m s F c)) rfl rfl ?_
    refine ae_icmp rfl (fun (q_1 : t < j) => ?_) (fun (q_1 : j ≤ t) => ?_)
    · refine am_E.ret rfl rfl ?_
      exact ⟨_, rfl, hs, rfl⟩
    · refine am_E.go (t2 := (30, [vR x, vI w, vI t, vI u, vI p, vI j], [vI p], aq_h m s F c)) rfl rfl ?_
      refine am_E.go (t2 := (32, [vR x, vI w, vI t, vI u, vI p, vI j], [vI (-40), vI p], aq_h m s F c)) rfl rfl ?_
      refine ae_icmp rfl (fun (q_2 : p < (-40)) => ?_) (fun (q_2 : (-40) ≤ p) => ?_)
      · refine am_E.go (t2 := (57, [vR x, vI w, vI t, vI u, vI p, vI j], [vI u], aq_h m s F c)) rfl rfl ?_
        refine am_E.go (t2 := (58, [vR x, vI w, vI t, vI u, vI p, vI j], [vI t, vI u], aq_h m s F c)) rfl rfl ?_
        refine am_E.go (t2 := (60, [vR x, vI w, vI t, vI u, vI p, vI j], [vI j, vI t, vI u], aq_h m s F c)) rfl rfl ?_
        refine ae_sub rfl (am_ri (by omega) (by omega)) ?_
        show am_E _ (61, [vR x, vI w, vI t, vI u, vI p, vI j], [vI (t - j), vI u], aq_h m s F c) _
        refine am_E.go (t2 := (62, [vR x, vI w, vI t, vI u, vI p, vI j], [vI (am_w (u * (t - j)))], aq_h m s F c)) rfl rfl ?_
        refine am_E.go (t2 := (64, [vR x, vI w, vI t, vI u, vI p, vI j], [vI j, vI (am_w (u * (t - j)))], aq_h m s F c)) rfl rfl ?_
        refine am_E.go (t2 := (65, [vR x, vI w, vI t, vI u, vI p, vI j], [vI 1, vI j, vI (am_w (u * (t - j)))], aq_h m s F c)) rfl rfl ?_
        refine ae_add rfl (am_ri (by omega) (by omega)) ?_
        show am_E _ (66, [vR x, vI w, vI t, vI u, vI p, vI j], [vI (j + 1), vI (am_w (u * (t - j)))], aq_h m s F c) _
        refine ae_bin (z := am_w ((am_w (u * (t - j))).tdiv (j + 1))) rfl rfl (am_div_s (by omega)) ?_
        show am_E _ (67, [vR x, vI w, vI t, vI u, vI p, vI j], [vI (am_w ((am_w (u * (t - j))).tdiv (j + 1)))], aq_h m s F c) _
        refine am_E.go (t2 := (68, [vR x, vI w, vI t, vI (am_w ((am_w (u * (t - j))).tdiv (j + 1))), vI p, vI j], [], aq_h m s F c)) rfl rfl ?_
        refine am_E.go (t2 := (71, [vR x, vI w, vI t, vI (am_w ((am_w (u * (t - j))).tdiv (j + 1))), vI (am_w (p + (-4))), vI j], [], aq_h m s F c)) rfl rfl ?_
        refine ae_iinc rfl rfl (am_ri (by omega) (by omega)) ?_
        show am_E _ (74, [vR x, vI w, vI t, vI (am_w ((am_w (u * (t - j))).tdiv (j + 1))), vI (am_w (p + (-4))), vI (j + 1)], [], aq_h m s F c) _
        refine am_E.go (t2 := (22, [vR x, vI w, vI t, vI (am_w ((am_w (u * (t - j))).tdiv (j + 1))), vI (am_w (p + (-4))), vI (j + 1)], [], aq_h m s F c)) rfl rfl ?_
        exact qn_addState_l ⟨hmx, hFx, hFl, hFw⟩ hSw ht0 ht1 d (am_w ((am_w (u * (t - j))).tdiv (j + 1))) (am_w (p + (-4))) (j + 1) c hs (by omega) (by omega) (by omega)
      · refine am_E.go (t2 := (37, [vR x, vI w, vI t, vI u, vI p, vI j], [vI p], aq_h m s F c)) rfl rfl ?_
        refine am_E.go (t2 := (39, [vR x, vI w, vI t, vI u, vI p, vI j], [vI 40, vI p], aq_h m s F c)) rfl rfl ?_
        refine ae_icmp rfl (fun (q_3 : 40 < p) => ?_) (fun (q_3 : p ≤ 40) => ?_)
        · refine am_E.go (t2 := (57, [vR x, vI w, vI t, vI u, vI p, vI j], [vI u], aq_h m s F c)) rfl rfl ?_
          refine am_E.go (t2 := (58, [vR x, vI w, vI t, vI u, vI p, vI j], [vI t, vI u], aq_h m s F c)) rfl rfl ?_
          refine am_E.go (t2 := (60, [vR x, vI w, vI t, vI u, vI p, vI j], [vI j, vI t, vI u], aq_h m s F c)) rfl rfl ?_
          refine ae_sub rfl (am_ri (by omega) (by omega)) ?_
          show am_E _ (61, [vR x, vI w, vI t, vI u, vI p, vI j], [vI (t - j), vI u], aq_h m s F c) _
          refine am_E.go (t2 := (62, [vR x, vI w, vI t, vI u, vI p, vI j], [vI (am_w (u * (t - j)))], aq_h m s F c)) rfl rfl ?_
          refine am_E.go (t2 := (64, [vR x, vI w, vI t, vI u, vI p, vI j], [vI j, vI (am_w (u * (t - j)))], aq_h m s F c)) rfl rfl ?_
          refine am_E.go (t2 := (65, [vR x, vI w, vI t, vI u, vI p, vI j], [vI 1, vI j, vI (am_w (u * (t - j)))], aq_h m s F c)) rfl rfl ?_
          refine ae_add rfl (am_ri (by omega) (by omega)) ?_
          show am_E _ (66, [vR x, vI w, vI t, vI u, vI p, vI j], [vI (j + 1), vI (am_w (u * (t - j)))], aq_h m s F c) _
          refine ae_bin (z := am_w ((am_w (u * (t - j))).tdiv (j + 1))) rfl rfl (am_div_s (by omega)) ?_
          show am_E _ (67, [vR x, vI w, vI t, vI u, vI p, vI j], [vI (am_w ((am_w (u * (t - j))).tdiv (j + 1)))], aq_h m s F c) _
          refine am_E.go (t2 := (68, [vR x, vI w, vI t, vI (am_w ((am_w (u * (t - j))).tdiv (j + 1))), vI p, vI j], [], aq_h m s F c)) rfl rfl ?_
          refine am_E.go (t2 := (71, [vR x, vI w, vI t, vI (am_w ((am_w (u * (t - j))).tdiv (j + 1))), vI (am_w (p + (-4))), vI j], [], aq_h m s F c)) rfl rfl ?_
          refine ae_iinc rfl rfl (am_ri (by omega) (by omega)) ?_
          show am_E _ (74, [vR x, vI w, vI t, vI (am_w ((am_w (u * (t - j))).tdiv (j + 1))), vI (am_w (p + (-4))), vI (j + 1)], [], aq_h m s F c) _
          refine am_E.go (t2 := (22, [vR x, vI w, vI t, vI (am_w ((am_w (u * (t - j))).tdiv (j + 1))), vI (am_w (p + (-4))), vI (j + 1)], [], aq_h m s F c)) rfl rfl ?_
          exact qn_addState_l ⟨hmx, hFx, hFl, hFw⟩ hSw ht0 ht1 d (am_w ((am_w (u * (t - j))).tdiv (j + 1))) (am_w (p + (-4))) (j + 1) c hs (by omega) (by omega) (by omega)
        · refine am_E.go (t2 := (43, [vR x, vI w, vI t, vI u, vI p, vI j], [vR x], aq_h m s F c)) rfl rfl ?_
          refine aq_gf (v := vR (x + 2)) rfl (by omega) hFx (by decide) rfl ?_
          show am_E _ (46, [vR x, vI w, vI t, vI u, vI p, vI j], [vR (x + 2)], aq_h m s F c) _
          refine am_E.go (t2 := (48, [vR x, vI w, vI t, vI u, vI p, vI j], [vI p, vR (x + 2)], aq_h m s F c)) rfl rfl ?_
          refine am_E.go (t2 := (50, [vR x, vI w, vI t, vI u, vI p, vI j], [vI 40, vI p, vR (x + 2)], aq_h m s F c)) rfl rfl ?_
          refine ae_add rfl (am_ri (by omega) (by omega)) ?_
          show am_E _ (51, [vR x, vI w, vI t, vI u, vI p, vI j], [vI (p + 40), vR (x + 2)], aq_h m s F c) _
          refine am_E.go (t2 := (52, [vR x, vI w, vI t, vI u, vI p, vI j], [vI (p + 40), vR (x + 2), vI (p + 40), vR (x + 2)], aq_h m s F c)) rfl rfl ?_
          refine aq_al (ok := fun k => k == 0) (v := vI (c (x + 2) (p + 40))) rfl rfl (by omega) hFw rfl (by omega) (by omega) rfl ?_
          show am_E _ (53, [vR x, vI w, vI t, vI u, vI p, vI j], [vI (c (x + 2) (p + 40)), vI (p + 40), vR (x + 2)], aq_h m s F c) _
          refine am_E.go (t2 := (54, [vR x, vI w, vI t, vI u, vI p, vI j], [vI u, vI (c (x + 2) (p + 40)), vI (p + 40), vR (x + 2)], aq_h m s F c)) rfl rfl ?_
          refine am_E.go (t2 := (55, [vR x, vI w, vI t, vI u, vI p, vI j], [vI (am_w ((c (x + 2) (p + 40)) + u)), vI (p + 40), vR (x + 2)], aq_h m s F c)) rfl rfl ?_
          refine aq_as (kd := 0) rfl rfl (by omega) hFw (by omega) (by omega) rfl rfl ?_
          show am_E _ (56, [vR x, vI w, vI t, vI u, vI p, vI j], [], aq_h m s F (aq_u c (x + 2) (p + 40) (am_w ((c (x + 2) (p + 40)) + u)))) _
          generalize hdc_4 : aq_u c (x + 2) (p + 40) (am_w ((c (x + 2) (p + 40)) + u)) = c_4
          have sc_4 := aq_smu hs hdc_4 hSw
          refine am_E.go (t2 := (57, [vR x, vI w, vI t, vI u, vI p, vI j], [vI u], aq_h m s F c_4)) rfl rfl ?_
          refine am_E.go (t2 := (58, [vR x, vI w, vI t, vI u, vI p, vI j], [vI t, vI u], aq_h m s F c_4)) rfl rfl ?_
          refine am_E.go (t2 := (60, [vR x, vI w, vI t, vI u, vI p, vI j], [vI j, vI t, vI u], aq_h m s F c_4)) rfl rfl ?_
          refine ae_sub rfl (am_ri (by omega) (by omega)) ?_
          show am_E _ (61, [vR x, vI w, vI t, vI u, vI p, vI j], [vI (t - j), vI u], aq_h m s F c_4) _
          refine am_E.go (t2 := (62, [vR x, vI w, vI t, vI u, vI p, vI j], [vI (am_w (u * (t - j)))], aq_h m s F c_4)) rfl rfl ?_
          refine am_E.go (t2 := (64, [vR x, vI w, vI t, vI u, vI p, vI j], [vI j, vI (am_w (u * (t - j)))], aq_h m s F c_4)) rfl rfl ?_
          refine am_E.go (t2 := (65, [vR x, vI w, vI t, vI u, vI p, vI j], [vI 1, vI j, vI (am_w (u * (t - j)))], aq_h m s F c_4)) rfl rfl ?_
          refine ae_add rfl (am_ri (by omega) (by omega)) ?_
          show am_E _ (66, [vR x, vI w, vI t, vI u, vI p, vI j], [vI (j + 1), vI (am_w (u * (t - j)))], aq_h m s F c_4) _
          refine ae_bin (z := am_w ((am_w (u * (t - j))).tdiv (j + 1))) rfl rfl (am_div_s (by omega)) ?_
          show am_E _ (67, [vR x, vI w, vI t, vI u, vI p, vI j], [vI (am_w ((am_w (u * (t - j))).tdiv (j + 1)))], aq_h m s F c_4) _
          refine am_E.go (t2 := (68, [vR x, vI w, vI t, vI (am_w ((am_w (u * (t - j))).tdiv (j + 1))), vI p, vI j], [], aq_h m s F c_4)) rfl rfl ?_
          refine am_E.go (t2 := (71, [vR x, vI w, vI t, vI (am_w ((am_w (u * (t - j))).tdiv (j + 1))), vI (am_w (p + (-4))), vI j], [], aq_h m s F c_4)) rfl rfl ?_
          refine ae_iinc rfl rfl (am_ri (by omega) (by omega)) ?_
          show am_E _ (74, [vR x, vI w, vI t, vI (am_w ((am_w (u * (t - j))).tdiv (j + 1))), vI (am_w (p + (-4))), vI (j + 1)], [], aq_h m s F c_4) _
          refine am_E.go (t2 := (22, [vR x, vI w, vI t, vI (am_w ((am_w (u * (t - j))).tdiv (j + 1))), vI (am_w (p + (-4))), vI (j + 1)], [], aq_h m s F c_4)) rfl rfl ?_
          exact qn_addState_l ⟨hmx, hFx, hFl, hFw⟩ hSw ht0 ht1 d (am_w ((am_w (u * (t - j))).tdiv (j + 1))) (am_w (p + (-4))) (j + 1) c_4 sc_4 (by omega) (by omega) (by omega)

theorem qn_X1_addState {m s : Nat} {F : aq_F} {c : aq_C} {S : Nat → Prop} {x : Nat} (hX : cr_0 m F x) (hSw : S (x + 2)) {w t : Int} (ht0 : -1 ≤ t) (ht1 : t ≤ 100) : am_E ac_X1_addState (0, [vR x, vI w, vI t, vU, vU, vU], [], aq_h m s F c) (aq_Z m s F S c (fun r _ => r = none)) := by
  obtain ⟨hmx, hFx, hFl, hFw⟩ := hX
  refine am_E.go (t2 := (1, [vR x, vI w, vI t, vU, vU, vU], [vI t], aq_h m s F c)) rfl rfl ?_
  refine am_E.go (t2 := (2, [vR x, vI w, vI t, vU, vU, vU], [vI 2, vI t], aq_h m s F c)) rfl rfl ?_
  refine ae_bin (z := t.tmod 2) rfl rfl (am_rem_s (by omega)) ?_
  show am_E _ (3, [vR x, vI w, vI t, vU, vU, vU], [vI (t.tmod 2)], aq_h m s F c) _
  refine ae_if0 rfl (fun (q_1 : (t.tmod 2) ≠ 0) => ?_) (fun (q_1 : (t.tmod 2) = 0) => ?_)
  · refine am_E.go (t2 := (11, [vR x, vI w, vI t, vU, vU, vU], [vI (-1)], aq_h m s F c)) rfl rfl ?_
    refine am_E.go (t2 := (12, [vR x, vI w, vI t, vI (-1), vU, vU], [], aq_h m s F c)) rfl rfl ?_
    refine am_E.go (t2 := (13, [vR x, vI w, vI t, vI (-1), vU, vU], [vI w], aq_h m s F c)) rfl rfl ?_
    refine am_E.go (t2 := (14, [vR x, vI w, vI t, vI (-1), vU, vU], [vI 2, vI w], aq_h m s F c)) rfl rfl ?_
    refine am_E.go (t2 := (15, [vR x, vI w, vI t, vI (-1), vU, vU], [vI t, vI 2, vI w], aq_h m s F c)) rfl rfl ?_
    refine am_E.go (t2 := (16, [vR x, vI w, vI t, vI (-1), vU, vU], [vI (am_w (2 * t)), vI w], aq_h m s F c)) rfl rfl ?_
    refine am_E.go (t2 := (17, [vR x, vI w, vI t, vI (-1), vU, vU], [vI (am_w (w + (am_w (2 * t))))], aq_h m s F c)) rfl rfl ?_
    refine am_E.go (t2 := (19, [vR x, vI w, vI t, vI (-1), vI (am_w (w + (am_w (2 * t)))), vU], [], aq_h m s F c)) rfl rfl ?_
    refine am_E.go (t2 := (20, [vR x, vI w, vI t, vI (-1), vI (am_w (w + (am_w (2 * t)))), vU], [vI 0], aq_h m s F c)) rfl rfl ?_
    refine am_E.go (t2 := (22, [vR x, vI w, vI t, vI (-1), vI (am_w (w + (am_w (2 * t)))), vI 0], [], aq_h m s F c)) rfl rfl ?_
    exact qn_addState_l ⟨hmx, hFx, hFl, hFw⟩ hSw ht0 ht1 103 (-1) (am_w (w + (am_w (2 * t)))) 0 c aq_sm0 (by omega) (by omega) (by omega)
  · refine am_E.go (t2 := (7, [vR x, vI w, vI t, vU, vU, vU], [vI 1], aq_h m s F c)) rfl rfl ?_
    refine am_E.go (t2 := (11, [vR x, vI w, vI t, vU, vU, vU], [vI 1], aq_h m s F c)) rfl rfl ?_
    refine am_E.go (t2 := (12, [vR x, vI w, vI t, vI 1, vU, vU], [], aq_h m s F c)) rfl rfl ?_
    refine am_E.go (t2 := (13, [vR x, vI w, vI t, vI 1, vU, vU], [vI w], aq_h m s F c)) rfl rfl ?_
    refine am_E.go (t2 := (14, [vR x, vI w, vI t, vI 1, vU, vU], [vI 2, vI w], aq_h m s F c)) rfl rfl ?_
    refine am_E.go (t2 := (15, [vR x, vI w, vI t, vI 1, vU, vU], [vI t, vI 2, vI w], aq_h m s F c)) rfl rfl ?_
    refine am_E.go (t2 := (16, [vR x, vI w, vI t, vI 1, vU, vU], [vI (am_w (2 * t)), vI w], aq_h m s F c)) rfl rfl ?_
    refine am_E.go (t2 := (17, [vR x, vI w, vI t, vI 1, vU, vU], [vI (am_w (w + (am_w (2 * t))))], aq_h m s F c)) rfl rfl ?_
    refine am_E.go (t2 := (19, [vR x, vI w, vI t, vI 1, vI (am_w (w + (am_w (2 * t)))), vU], [], aq_h m s F c)) rfl rfl ?_
    refine am_E.go (t2 := (20, [vR x, vI w, vI t, vI 1, vI (am_w (w + (am_w (2 * t)))), vU], [vI 0], aq_h m s F c)) rfl rfl ?_
    refine am_E.go (t2 := (22, [vR x, vI w, vI t, vI 1, vI (am_w (w + (am_w (2 * t)))), vI 0], [], aq_h m s F c)) rfl rfl ?_
    exact qn_addState_l ⟨hmx, hFx, hFl, hFw⟩ hSw ht0 ht1 103 1 (am_w (w + (am_w (2 * t)))) 0 c aq_sm0 (by omega) (by omega) (by omega)

theorem qn_addStates_in {m s : Nat} {F : aq_F} {c0 : aq_C} {S : Nat → Prop} {x : Nat} (hX : cr_0 m F x) (hSw : S (x + 2)) (hnx : ¬ S x) (hny : ¬ S (x + 1)) (hl : cr_l x c0) {o n K : Nat} (hB : bx_0 m F o n K) (hSd : S (o + 6 + 3 * K)) (hSs : S (o + 7 + 3 * K)) (hxn : c0 x 0 = (n : Int)) (hdx : o + 6 + 3 * K ≠ x + 2) {tL : Int → Int} {tG tN : Int → Int → Int} (hT : bx_w F o n K tL tG tN) {tR : Int → Int} (hRr : bx_r F o K tR) (hst : 0 ≤ nu_o (bx_ol n 0) (2 * (n : Int)) 9 0 0 (2 * (n : Int) - 1) ∧ nu_o (bx_ol n 0) (2 * (n : Int)) 9 0 0 (2 * (n : Int) - 1) < (K : Int)) {b : Int} : ∀ (d : Nat) (st : Int) (t : Int) (r : Int) (w : Int) (i : Int) (v8 : am_V) (v9 : am_V) (c : aq_C) (hs : aq_sm S c0 c) (h0 : 0 ≤ i) (h1 : i ≤ c0 x 1) (h2 : 0 ≤ t) (h3 : t < (K : Int)) (h4 : 0 ≤ r) (h5 : r ≤ 5 * i) (hr : aq_rg (o + 6 + 3 * K) (2 * (n : Int)) 0 (2 * (n : Int)) c) (hd : c0 x 1 - i < (d : Int)) (K0 : ∀ (t2 : Int) (r2 : Int) (w2 : Int) (i2 : Int) (v82 : am_V) (v92 : am_V) (c2 : aq_C) (hs2 : aq_sm S c0 c2) (f1 : 0 ≤ t2) (f2 : t2 < (K : Int)) (f3 : 0 ≤ r2) (f4 : r2 ≤ 40) (hr2 : aq_rg (o + 6 + 3 * K) (2 * (n : Int)) 0 (2 * (n : Int)) c2), am_E ac_X1_addStates (162, [vR x, vR o, vI b, vI st, vI t2, vI r2, vI w2, vI i2, v82, v92], [], aq_h m s F c2) (aq_Z m s F S c0 (fun r d => r = none ∧ aq_rg (o + 6 + 3 * K) (2 * (n : Int)) 0 (2 * (n : Int)) d))), am_E ac_X1_addStates (54, [vR x, vR o, vI b, vI st, vI t, vI r, vI w, vI i, v8, v9], [], aq_h m s F c) (aq_Z m s F S c0 (fun r d => r = none ∧ aq_rg (o + 6 + 3 * K) (2 * (n : Int)) 0 (2 * (n : Int)) d))
  | 0, st, t, r, w, i, v8, v9, c, hs, h0, h1, h2, h3, h4, h5, hr, hd, K0 => by exfalso; omega
  | d + 1, st, t, r, w, i, v8, v9, c, hs, h0, h1, h2, h3, h4, h5, hr, hd, K0 => by
    obtain ⟨hmx, hFx, hFl, hFw⟩ := hX
    obtain ⟨hm, hn1, hn4, hK, hFo, hFd, hFs⟩ := hB
    obtain ⟨hL, hGg, hGr, hNg, hNr, hLt, hGt, hNt⟩ := hT
    obtain ⟨hR, hRt⟩ := hRr
    obtain ⟨hl0, hl1, hl2, hl3, hl4⟩ := hl
    refine am_E.go (t2 := (56, [vR x, vR o, vI b, vI st, vI t, vI r, vI w, vI i, v8, v9], [vI i], aq_h m s F c)) rfl rfl ?_
    refine am_E.go (t2 := (57, [vR x, vR o, vI b, vI st, vI t, vI r, vI w, vI i, v8, v9], [vR x, vI i], aq_h m s F c)) rfl rfl ?_
    refine aq_gf (v := vI (c x 1)) rfl (by omega) hFx (by decide) rfl ?_
    show am_E _ (60, [vR x, vR o, vI b, vI st, vI t, vI r, vI w, vI i, v8, v9], [vI (c x 1), vI i], aq_h m s F c) _
    have f_1 := hs x hnx 1
    refine ae_icmp rfl (fun (q_2 : (c x 1) ≤ i) => ?_) (fun (q_2 : i < (c x 1)) => ?_)
    · exact K0 t r w i (v8) (v9) c hs (by omega) (by omega) (by omega) (by omega) hr
    · refine am_E.go (t2 := (64, [vR x, vR o, vI b, vI st, vI t, vI r, vI w, vI i, v8, v9], [vI st], aq_h m s F c)) rfl rfl ?_
      refine am_E.go (t2 := (66, [vR x, vR o, vI b, vI st, vI t, vI r, vI w, vI i, v8, v9], [vI i, vI st], aq_h m s F c)) rfl rfl ?_
      refine am_E.go (t2 := (67, [vR x, vR o, vI b, vI st, vI t, vI r, vI w, vI i, v8, v9], [vI (am_shri st i)], aq_h m s F c)) rfl rfl ?_
      refine am_E.go (t2 := (68, [vR x, vR o, vI b, vI st, vI t, vI r, vI w, vI i, v8, v9], [vI 1, vI (am_shri st i)], aq_h m s F c)) rfl rfl ?_
      refine am_E.go (t2 := (69, [vR x, vR o, vI b, vI st, vI t, vI r, vI w, vI i, v8, v9], [vI (am_and (am_shri st i) 1)], aq_h m s F c)) rfl rfl ?_
      refine am_E.go (t2 := (70, [vR x, vR o, vI b, vI st, vI t, vI r, vI w, vI i, v8, v9], [vI 1, vI (am_and (am_shri st i) 1)], aq_h m s F c)) rfl rfl ?_
      refine ae_icmp rfl (fun (q_3 : (am_and (am_shri st i) 1) ≠ 1) => ?_) (fun (q_3 : (am_and (am_shri st i) 1) = 1) => ?_)
      · refine am_E.go (t2 := (78, [vR x, vR o, vI b, vI st, vI t, vI r, vI w, vI i, v8, v9], [vI 0], aq_h m s F c)) rfl rfl ?_
        refine am_E.go (t2 := (80, [vR x, vR o, vI b, vI st, vI t, vI r, vI w, vI i, vI 0, v9], [], aq_h m s F c)) rfl rfl ?_
        refine am_E.go (t2 := (82, [vR x, vR o, vI b, vI st, vI t, vI r, vI w, vI i, vI 0, v9], [vI w], aq_h m s F c)) rfl rfl ?_
        refine am_E.go (t2 := (84, [vR x, vR o, vI b, vI st, vI t, vI r, vI w, vI i, vI 0, v9], [vI 0, vI w], aq_h m s F c)) rfl rfl ?_
        refine am_E.go (t2 := (85, [vR x, vR o, vI b, vI st, vI t, vI r, vI w, vI i, vI 0, v9], [vR x, vI 0, vI w], aq_h m s F c)) rfl rfl ?_
        refine aq_gf (v := vR (x + 1)) rfl (by omega) hFx (by decide) rfl ?_
        show am_E _ (88, [vR x, vR o, vI b, vI st, vI t, vI r, vI w, vI i, vI 0, v9], [vR (x + 1), vI 0, vI w], aq_h m s F c) _
        refine am_E.go (t2 := (90, [vR x, vR o, vI b, vI st, vI t, vI r, vI w, vI i, vI 0, v9], [vI i, vR (x + 1), vI 0, vI w], aq_h m s F c)) rfl rfl ?_
        refine aq_al (ok := fun k => k == 0) (v := vI (c (x + 1) i)) rfl rfl (by omega) hFl rfl (by omega) (by omega) rfl ?_
        show am_E _ (91, [vR x, vR o, vI b, vI st, vI t, vI r, vI w, vI i, vI 0, v9], [vI (c (x + 1) i), vI 0, vI w], aq_h m s F c) _
        have f_4 := hs (x + 1) hny i
        have f_4b := hl4 i (by omega) (by omega)
        refine ae_if0 rfl (fun (q_5 : 0 ≤ (c (x + 1) i)) => ?_) (fun (q_5 : (c (x + 1) i) < 0) => ?_)
        · refine am_E.go (t2 := (99, [vR x, vR o, vI b, vI st, vI t, vI r, vI w, vI i, vI 0, v9], [vI 0, vI 0, vI w], aq_h m s F c)) rfl rfl ?_
          refine am_E.go (t2 := (102, [vR x, vR o, vI b, vI st, vI t, vI r, vI w, vI i, vI 0, v9], [vI w], aq_h m s F c)) rfl rfl ?_
          refine am_E.go (t2 := (103, [vR x, vR o, vI b, vI st, vI t, vI r, vI w, vI i, vI 0, v9], [vI 1, vI w], aq_h m s F c)) rfl rfl ?_
          refine am_E.go (t2 := (107, [vR x, vR o, vI b, vI st, vI t, vI r, vI w, vI i, vI 0, v9], [vI 1, vI w], aq_h m s F c)) rfl rfl ?_
          refine am_E.go (t2 := (108, [vR x, vR o, vI b, vI st, vI t, vI r, vI w, vI i, vI 0, v9], [vI (am_w (w + 1))], aq_h m s F c)) rfl rfl ?_
          refine am_E.go (t2 := (110, [vR x, vR o, vI b, vI st, vI t, vI r, vI (am_w (w + 1)), vI i, vI 0, v9], [], aq_h m s F c)) rfl rfl ?_
          refine am_E.go (t2 := (112, [vR x, vR o, vI b, vI st, vI t, vI r, vI (am_w (w + 1)), vI i, vI 0, v9], [vI 0], aq_h m s F c)) rfl rfl ?_
          refine am_E.go (t2 := (156, [vR x, vR o, vI b, vI st, vI t, vI r, vI (am_w (w + 1)), vI i, vI 0, v9], [], aq_h m s F c)) rfl rfl ?_
          refine ae_iinc rfl rfl (am_ri (by omega) (by omega)) ?_
          show am_E _ (159, [vR x, vR o, vI b, vI st, vI t, vI r, vI (am_w (w + 1)), vI (i + 1), vI 0, v9], [], aq_h m s F c) _
          refine am_E.go (t2 := (54, [vR x, vR o, vI b, vI st, vI t, vI r, vI (am_w (w + 1)), vI (i + 1), vI 0, v9], [], aq_h m s F c)) rfl rfl ?_
          exact qn_addStates_in ⟨hmx, hFx, hFl, hFw⟩ hSw hnx hny ⟨hl0, hl1, hl2, hl3, hl4⟩ ⟨hm, hn1, hn4, hK, hFo, hFd, hFs⟩ hSd hSs hxn hdx ⟨hL, hGg, hGr, hNg, hNr, hLt, hGt, hNt⟩ ⟨hR, hRt⟩ hst d st t r (am_w (w + 1)) (i + 1) (vI 0) (v9) c hs (by omega) (by omega) (by omega) (by omega) (by omega) (by omega) hr (by omega) K0
        · refine am_E.go (t2 := (95, [vR x, vR o, vI b, vI st, vI t, vI r, vI w, vI i, vI 0, v9], [vI 1, vI 0, vI w], aq_h m s F c)) rfl rfl ?_
          refine am_E.go (t2 := (99, [vR x, vR o, vI b, vI st, vI t, vI r, vI w, vI i, vI 0, v9], [vI 1, vI 0, vI w], aq_h m s F c)) rfl rfl ?_
          refine am_E.go (t2 := (106, [vR x, vR o, vI b, vI st, vI t, vI r, vI w, vI i, vI 0, v9], [vI w], aq_h m s F c)) rfl rfl ?_
          refine am_E.go (t2 := (107, [vR x, vR o, vI b, vI st, vI t, vI r, vI w, vI i, vI 0, v9], [vI (-1), vI w], aq_h m s F c)) rfl rfl ?_
          refine am_E.go (t2 := (108, [vR x, vR o, vI b, vI st, vI t, vI r, vI w, vI i, vI 0, v9], [vI (am_w (w + (-1)))], aq_h m s F c)) rfl rfl ?_
          refine am_E.go (t2 := (110, [vR x, vR o, vI b, vI st, vI t, vI r, vI (am_w (w + (-1))), vI i, vI 0, v9], [], aq_h m s F c)) rfl rfl ?_
          refine am_E.go (t2 := (112, [vR x, vR o, vI b, vI st, vI t, vI r, vI (am_w (w + (-1))), vI i, vI 0, v9], [vI 0], aq_h m s F c)) rfl rfl ?_
          refine am_E.go (t2 := (156, [vR x, vR o, vI b, vI st, vI t, vI r, vI (am_w (w + (-1))), vI i, vI 0, v9], [], aq_h m s F c)) rfl rfl ?_
          refine ae_iinc rfl rfl (am_ri (by omega) (by omega)) ?_
          show am_E _ (159, [vR x, vR o, vI b, vI st, vI t, vI r, vI (am_w (w + (-1))), vI (i + 1), vI 0, v9], [], aq_h m s F c) _
          refine am_E.go (t2 := (54, [vR x, vR o, vI b, vI st, vI t, vI r, vI (am_w (w + (-1))), vI (i + 1), vI 0, v9], [], aq_h m s F c)) rfl rfl ?_
          exact qn_addStates_in ⟨hmx, hFx, hFl, hFw⟩ hSw hnx hny ⟨hl0, hl1, hl2, hl3, hl4⟩ ⟨hm, hn1, hn4, hK, hFo, hFd, hFs⟩ hSd hSs hxn hdx ⟨hL, hGg, hGr, hNg, hNr, hLt, hGt, hNt⟩ ⟨hR, hRt⟩ hst d st t r (am_w (w + (-1))) (i + 1) (vI 0) (v9) c hs (by omega) (by omega) (by omega) (by omega) (by omega) (by omega) hr (by omega) K0
      · refine am_E.go (t2 := (74, [vR x, vR o, vI b, vI st, vI t, vI r, vI w, vI i, v8, v9], [vI 1], aq_h m s F c)) rfl rfl ?_
        refine am_E.go (t2 := (78, [vR x, vR o, vI b, vI st, vI t, vI r, vI w, vI i, v8, v9], [vI 1], aq_h m s F c)) rfl rfl ?_
        refine am_E.go (t2 := (80, [vR x, vR o, vI b, vI st, vI t, vI r, vI w, vI i, vI 1, v9], [], aq_h m s F c)) rfl rfl ?_
        refine am_E.go (t2 := (82, [vR x, vR o, vI b, vI st, vI t, vI r, vI w, vI i, vI 1, v9], [vI w], aq_h m s F c)) rfl rfl ?_
        refine am_E.go (t2 := (84, [vR x, vR o, vI b, vI st, vI t, vI r, vI w, vI i, vI 1, v9], [vI 1, vI w], aq_h m s F c)) rfl rfl ?_
        refine am_E.go (t2 := (85, [vR x, vR o, vI b, vI st, vI t, vI r, vI w, vI i, vI 1, v9], [vR x, vI 1, vI w], aq_h m s F c)) rfl rfl ?_
        refine aq_gf (v := vR (x + 1)) rfl (by omega) hFx (by decide) rfl ?_
        show am_E _ (88, [vR x, vR o, vI b, vI st, vI t, vI r, vI w, vI i, vI 1, v9], [vR (x + 1), vI 1, vI w], aq_h m s F c) _
        refine am_E.go (t2 := (90, [vR x, vR o, vI b, vI st, vI t, vI r, vI w, vI i, vI 1, v9], [vI i, vR (x + 1), vI 1, vI w], aq_h m s F c)) rfl rfl ?_
        refine aq_al (ok := fun k => k == 0) (v := vI (c (x + 1) i)) rfl rfl (by omega) hFl rfl (by omega) (by omega) rfl ?_
        show am_E _ (91, [vR x, vR o, vI b, vI st, vI t, vI r, vI w, vI i, vI 1, v9], [vI (c (x + 1) i), vI 1, vI w], aq_h m s F c) _
        have f_6 := hs (x + 1) hny i
        have f_6b := hl4 i (by omega) (by omega)
        refine ae_if0 rfl (fun (q_7 : 0 ≤ (c (x + 1) i)) => ?_) (fun (q_7 : (c (x + 1) i) < 0) => ?_)
        · refine am_E.go (t2 := (99, [vR x, vR o, vI b, vI st, vI t, vI r, vI w, vI i, vI 1, v9], [vI 0, vI 1, vI w], aq_h m s F c)) rfl rfl ?_
          refine am_E.go (t2 := (106, [vR x, vR o, vI b, vI st, vI t, vI r, vI w, vI i, vI 1, v9], [vI w], aq_h m s F c)) rfl rfl ?_
          refine am_E.go (t2 := (107, [vR x, vR o, vI b, vI st, vI t, vI r, vI w, vI i, vI 1, v9], [vI (-1), vI w], aq_h m s F c)) rfl rfl ?_
          refine am_E.go (t2 := (108, [vR x, vR o, vI b, vI st, vI t, vI r, vI w, vI i, vI 1, v9], [vI (am_w (w + (-1)))], aq_h m s F c)) rfl rfl ?_
          refine am_E.go (t2 := (110, [vR x, vR o, vI b, vI st, vI t, vI r, vI (am_w (w + (-1))), vI i, vI 1, v9], [], aq_h m s F c)) rfl rfl ?_
          refine am_E.go (t2 := (112, [vR x, vR o, vI b, vI st, vI t, vI r, vI (am_w (w + (-1))), vI i, vI 1, v9], [vI 1], aq_h m s F c)) rfl rfl ?_
          refine am_E.go (t2 := (115, [vR x, vR o, vI b, vI st, vI t, vI r, vI (am_w (w + (-1))), vI i, vI 1, v9], [], aq_h m s F c)) rfl rfl ?_
          refine am_E.go (t2 := (116, [vR x, vR o, vI b, vI st, vI t, vI r, vI (am_w (w + (-1))), vI i, vI 1, v9], [vR o], aq_h m s F c)) rfl rfl ?_
          refine aq_gf (v := vR (o + 5 + 2 * K)) rfl (by omega) hFo (by decide) rfl ?_
          show am_E _ (119, [vR x, vR o, vI b, vI st, vI t, vI r, vI (am_w (w + (-1))), vI i, vI 1, v9], [vR (o + 5 + 2 * K)], aq_h m s F c) _
          refine am_E.go (t2 := (121, [vR x, vR o, vI b, vI st, vI t, vI r, vI (am_w (w + (-1))), vI i, vI 1, v9], [vI t, vR (o + 5 + 2 * K)], aq_h m s F c)) rfl rfl ?_
          refine aq_al (ok := fun k => decide (3 ≤ k) && decide (k < 7)) (v := vR (o + 6 + 2 * K + t.toNat)) rfl rfl (by omega) hNg rfl (by omega) (by omega) rfl ?_
          show am_E _ (122, [vR x, vR o, vI b, vI st, vI t, vI r, vI (am_w (w + (-1))), vI i, vI 1, v9], [vR (o + 6 + 2 * K + t.toNat)], aq_h m s F c) _
          refine am_E.go (t2 := (123, [vR x, vR o, vI b, vI st, vI t, vI r, vI (am_w (w + (-1))), vI i, vI 1, v9], [vR x, vR (o + 6 + 2 * K + t.toNat)], aq_h m s F c)) rfl rfl ?_
          refine aq_gf (v := vR (x + 1)) rfl (by omega) hFx (by decide) rfl ?_
          show am_E _ (126, [vR x, vR o, vI b, vI st, vI t, vI r, vI (am_w (w + (-1))), vI i, vI 1, v9], [vR (x + 1), vR (o + 6 + 2 * K + t.toNat)], aq_h m s F c) _
          refine am_E.go (t2 := (128, [vR x, vR o, vI b, vI st, vI t, vI r, vI (am_w (w + (-1))), vI i, vI 1, v9], [vI i, vR (x + 1), vR (o + 6 + 2 * K + t.toNat)], aq_h m s F c)) rfl rfl ?_
          refine aq_al (ok := fun k => k == 0) (v := vI (c (x + 1) i)) rfl rfl (by omega) hFl rfl (by omega) (by omega) rfl ?_
          show am_E _ (129, [vR x, vR o, vI b, vI st, vI t, vI r, vI (am_w (w + (-1))), vI i, vI 1, v9], [vI (c (x + 1) i), vR (o + 6 + 2 * K + t.toNat)], aq_h m s F c) _
          have f_8 := hs (x + 1) hny i
          have f_8b := hl4 i (by omega) (by omega)
          refine am_E.call rfl rfl rfl (Nat.le_of_ble_eq_true rfl) (rn_J9_abs (by omega) (by omega) _) ?_
          rintro r5 h5 ⟨rfl, v_9, rfl, hv_9⟩
          show am_E _ (132, [vR x, vR o, vI b, vI st, vI t, vI r, vI (am_w (w + (-1))), vI i, vI 1, v9], [vI v_9, vR (o + 6 + 2 * K + t.toNat)], aq_h m s F c) _
          refine am_E.go (t2 := (133, [vR x, vR o, vI b, vI st, vI t, vI r, vI (am_w (w + (-1))), vI i, vI 1, v9], [vI 1, vI v_9, vR (o + 6 + 2 * K + t.toNat)], aq_h m s F c)) rfl rfl ?_
          refine ae_sub rfl (am_ri (by omega) (by omega)) ?_
          show am_E _ (134, [vR x, vR o, vI b, vI st, vI t, vI r, vI (am_w (w + (-1))), vI i, vI 1, v9], [vI (v_9 - 1), vR (o + 6 + 2 * K + t.toNat)], aq_h m s F c) _
          refine aq_alt (ok := fun k => k == 0) rfl rfl (by omega) (hNr _ (by omega)) rfl (by omega) (by omega) ?_
          show am_E _ (135, [vR x, vR o, vI b, vI st, vI t, vI r, vI (am_w (w + (-1))), vI i, vI 1, v9], [vI (tN ((t.toNat : Nat) : Int) (v_9 - 1))], aq_h m s F c) _
          have f_10 := hNt ((t.toNat : Nat) : Int) (v_9 - 1) (by omega) (by omega) (by omega) (by omega)
          refine am_E.go (t2 := (137, [vR x, vR o, vI b, vI st, vI t, vI r, vI (am_w (w + (-1))), vI i, vI 1, vI (tN ((t.toNat : Nat) : Int) (v_9 - 1))], [], aq_h m s F c)) rfl rfl ?_
          refine am_E.go (t2 := (139, [vR x, vR o, vI b, vI st, vI t, vI r, vI (am_w (w + (-1))), vI i, vI 1, vI (tN ((t.toNat : Nat) : Int) (v_9 - 1))], [vI (tN ((t.toNat : Nat) : Int) (v_9 - 1))], aq_h m s F c)) rfl rfl ?_
          refine am_E.go (t2 := (142, [vR x, vR o, vI b, vI st, vI t, vI r, vI (am_w (w + (-1))), vI i, vI 1, vI (tN ((t.toNat : Nat) : Int) (v_9 - 1))], [vI 1000, vI (tN ((t.toNat : Nat) : Int) (v_9 - 1))], aq_h m s F c)) rfl rfl ?_
          refine ae_bin (z := (tN ((t.toNat : Nat) : Int) (v_9 - 1)) % 1000) rfl rfl (am_rem_e (by omega) (by decide)) ?_
          show am_E _ (143, [vR x, vR o, vI b, vI st, vI t, vI r, vI (am_w (w + (-1))), vI i, vI 1, vI (tN ((t.toNat : Nat) : Int) (v_9 - 1))], [vI ((tN ((t.toNat : Nat) : Int) (v_9 - 1)) % 1000)], aq_h m s F c) _
          refine am_E.go (t2 := (145, [vR x, vR o, vI b, vI st, vI ((tN ((t.toNat : Nat) : Int) (v_9 - 1)) % 1000), vI r, vI (am_w (w + (-1))), vI i, vI 1, vI (tN ((t.toNat : Nat) : Int) (v_9 - 1))], [], aq_h m s F c)) rfl rfl ?_
          refine am_E.go (t2 := (147, [vR x, vR o, vI b, vI st, vI ((tN ((t.toNat : Nat) : Int) (v_9 - 1)) % 1000), vI r, vI (am_w (w + (-1))), vI i, vI 1, vI (tN ((t.toNat : Nat) : Int) (v_9 - 1))], [vI r], aq_h m s F c)) rfl rfl ?_
          refine am_E.go (t2 := (149, [vR x, vR o, vI b, vI st, vI ((tN ((t.toNat : Nat) : Int) (v_9 - 1)) % 1000), vI r, vI (am_w (w + (-1))), vI i, vI 1, vI (tN ((t.toNat : Nat) : Int) (v_9 - 1))], [vI (tN ((t.toNat : Nat) : Int) (v_9 - 1)), vI r], aq_h m s F c)) rfl rfl ?_
          refine am_E.go (t2 := (152, [vR x, vR o, vI b, vI st, vI ((tN ((t.toNat : Nat) : Int) (v_9 - 1)) % 1000), vI r, vI (am_w (w + (-1))), vI i, vI 1, vI (tN ((t.toNat : Nat) : Int) (v_9 - 1))], [vI 1000, vI (tN ((t.toNat : Nat) : Int) (v_9 - 1)), vI r], aq_h m s F c)) rfl rfl ?_
          refine ae_bin (z := (tN ((t.toNat : Nat) : Int) (v_9 - 1)) / 1000) rfl rfl (am_div_e (by omega) (by omega) (by decide)) ?_
          show am_E _ (153, [vR x, vR o, vI b, vI st, vI ((tN ((t.toNat : Nat) : Int) (v_9 - 1)) % 1000), vI r, vI (am_w (w + (-1))), vI i, vI 1, vI (tN ((t.toNat : Nat) : Int) (v_9 - 1))], [vI ((tN ((t.toNat : Nat) : Int) (v_9 - 1)) / 1000), vI r], aq_h m s F c) _
          refine ae_add rfl (am_ri (by omega) (by omega)) ?_
          show am_E _ (154, [vR x, vR o, vI b, vI st, vI ((tN ((t.toNat : Nat) : Int) (v_9 - 1)) % 1000), vI r, vI (am_w (w + (-1))), vI i, vI 1, vI (tN ((t.toNat : Nat) : Int) (v_9 - 1))], [vI (r + ((tN ((t.toNat : Nat) : Int) (v_9 - 1)) / 1000))], aq_h m s F c) _
          refine am_E.go (t2 := (156, [vR x, vR o, vI b, vI st, vI ((tN ((t.toNat : Nat) : Int) (v_9 - 1)) % 1000), vI (r + ((tN ((t.toNat : Nat) : Int) (v_9 - 1)) / 1000)), vI (am_w (w + (-1))), vI i, vI 1, vI (tN ((t.toNat : Nat) : Int) (v_9 - 1))], [], aq_h m s F c)) rfl rfl ?_
          refine ae_iinc rfl rfl (am_ri (by omega) (by omega)) ?_
          show am_E _ (159, [vR x, vR o, vI b, vI st, vI ((tN ((t.toNat : Nat) : Int) (v_9 - 1)) % 1000), vI (r + ((tN ((t.toNat : Nat) : Int) (v_9 - 1)) / 1000)), vI (am_w (w + (-1))), vI (i + 1), vI 1, vI (tN ((t.toNat : Nat) : Int) (v_9 - 1))], [], aq_h m s F c) _
          refine am_E.go (t2 := (54, [vR x, vR o, vI b, vI st, vI ((tN ((t.toNat : Nat) : Int) (v_9 - 1)) % 1000), vI (r + ((tN ((t.toNat : Nat) : Int) (v_9 - 1)) / 1000)), vI (am_w (w + (-1))), vI (i + 1), vI 1, vI (tN ((t.toNat : Nat) : Int) (v_9 - 1))], [], aq_h m s F c)) rfl rfl ?_
          exact qn_addStates_in ⟨hmx, hFx, hFl, hFw⟩ hSw hnx hny ⟨hl0, hl1, hl2, hl3, hl4⟩ ⟨hm, hn1, hn4, hK, hFo, hFd, hFs⟩ hSd hSs hxn hdx ⟨hL, hGg, hGr, hNg, hNr, hLt, hGt, hNt⟩ ⟨hR, hRt⟩ hst d st ((tN ((t.toNat : Nat) : Int) (v_9 - 1)) % 1000) (r + ((tN ((t.toNat : Nat) : Int) (v_9 - 1)) / 1000)) (am_w (w + (-1))) (i + 1) (vI 1) (vI (tN ((t.toNat : Nat) : Int) (v_9 - 1))) c hs (by omega) (by omega) (by omega) (by omega) (by omega) (by omega) hr (by omega) K0
        · refine am_E.go (t2 := (95, [vR x, vR o, vI b, vI st, vI t, vI r, vI w, vI i, vI 1, v9], [vI 1, vI 1, vI w], aq_h m s F c)) rfl rfl ?_
          refine am_E.go (t2 := (99, [vR x, vR o, vI b, vI st, vI t, vI r, vI w, vI i, vI 1, v9], [vI 1, vI 1, vI w], aq_h m s F c)) rfl rfl ?_
          refine am_E.go (t2 := (102, [vR x, vR o, vI b, vI st, vI t, vI r, vI w, vI i, vI 1, v9], [vI w], aq_h m s F c)) rfl rfl ?_
          refine am_E.go (t2 := (103, [vR x, vR o, vI b, vI st, vI t, vI r, vI w, vI i, vI 1, v9], [vI 1, vI w], aq_h m s F c)) rfl rfl ?_
          refine am_E.go (t2 := (107, [vR x, vR o, vI b, vI st, vI t, vI r, vI w, vI i, vI 1, v9], [vI 1, vI w], aq_h m s F c)) rfl rfl ?_
          refine am_E.go (t2 := (108, [vR x, vR o, vI b, vI st, vI t, vI r, vI w, vI i, vI 1, v9], [vI (am_w (w + 1))], aq_h m s F c)) rfl rfl ?_
          refine am_E.go (t2 := (110, [vR x, vR o, vI b, vI st, vI t, vI r, vI (am_w (w + 1)), vI i, vI 1, v9], [], aq_h m s F c)) rfl rfl ?_
          refine am_E.go (t2 := (112, [vR x, vR o, vI b, vI st, vI t, vI r, vI (am_w (w + 1)), vI i, vI 1, v9], [vI 1], aq_h m s F c)) rfl rfl ?_
          refine am_E.go (t2 := (115, [vR x, vR o, vI b, vI st, vI t, vI r, vI (am_w (w + 1)), vI i, vI 1, v9], [], aq_h m s F c)) rfl rfl ?_
          refine am_E.go (t2 := (116, [vR x, vR o, vI b, vI st, vI t, vI r, vI (am_w (w + 1)), vI i, vI 1, v9], [vR o], aq_h m s F c)) rfl rfl ?_
          refine aq_gf (v := vR (o + 5 + 2 * K)) rfl (by omega) hFo (by decide) rfl ?_
          show am_E _ (119, [vR x, vR o, vI b, vI st, vI t, vI r, vI (am_w (w + 1)), vI i, vI 1, v9], [vR (o + 5 + 2 * K)], aq_h m s F c) _
          refine am_E.go (t2 := (121, [vR x, vR o, vI b, vI st, vI t, vI r, vI (am_w (w + 1)), vI i, vI 1, v9], [vI t, vR (o + 5 + 2 * K)], aq_h m s F c)) rfl rfl ?_
          refine aq_al (ok := fun k => decide (3 ≤ k) && decide (k < 7)) (v := vR (o + 6 + 2 * K + t.toNat)) rfl rfl (by omega) hNg rfl (by omega) (by omega) rfl ?_
          show am_E _ (122, [vR x, vR o, vI b, vI st, vI t, vI r, vI (am_w (w + 1)), vI i, vI 1, v9], [vR (o + 6 + 2 * K + t.toNat)], aq_h m s F c) _
          refine am_E.go (t2 := (123, [vR x, vR o, vI b, vI st, vI t, vI r, vI (am_w (w + 1)), vI i, vI 1, v9], [vR x, vR (o + 6 + 2 * K + t.toNat)], aq_h m s F c)) rfl rfl ?_
          refine aq_gf (v := vR (x + 1)) rfl (by omega) hFx (by decide) rfl ?_
          show am_E _ (126, [vR x, vR o, vI b, vI st, vI t, vI r, vI (am_w (w + 1)), vI i, vI 1, v9], [vR (x + 1), vR (o + 6 + 2 * K + t.toNat)], aq_h m s F c) _
          refine am_E.go (t2 := (128, [vR x, vR o, vI b, vI st, vI t, vI r, vI (am_w (w + 1)), vI i, vI 1, v9], [vI i, vR (x + 1), vR (o + 6 + 2 * K + t.toNat)], aq_h m s F c)) rfl rfl ?_
          refine aq_al (ok := fun k => k == 0) (v := vI (c (x + 1) i)) rfl rfl (by omega) hFl rfl (by omega) (by omega) rfl ?_
          show am_E _ (129, [vR x, vR o, vI b, vI st, vI t, vI r, vI (am_w (w + 1)), vI i, vI 1, v9], [vI (c (x + 1) i), vR (o + 6 + 2 * K + t.toNat)], aq_h m s F c) _
          have f_11 := hs (x + 1) hny i
          have f_11b := hl4 i (by omega) (by omega)
          refine am_E.call rfl rfl rfl (Nat.le_of_ble_eq_true rfl) (rn_J9_abs (by omega) (by omega) _) ?_
          rintro r5 h5 ⟨rfl, v_12, rfl, hv_12⟩
          show am_E _ (132, [vR x, vR o, vI b, vI st, vI t, vI r, vI (am_w (w + 1)), vI i, vI 1, v9], [vI v_12, vR (o + 6 + 2 * K + t.toNat)], aq_h m s F c) _
          refine am_E.go (t2 := (133, [vR x, vR o, vI b, vI st, vI t, vI r, vI (am_w (w + 1)), vI i, vI 1, v9], [vI 1, vI v_12, vR (o + 6 + 2 * K + t.toNat)], aq_h m s F c)) rfl rfl ?_
          refine ae_sub rfl (am_ri (by omega) (by omega)) ?_
          show am_E _ (134, [vR x, vR o, vI b, vI st, vI t, vI r, vI (am_w (w + 1)), vI i, vI 1, v9], [vI (v_12 - 1), vR (o + 6 + 2 * K + t.toNat)], aq_h m s F c) _
          refine aq_alt (ok := fun k => k == 0) rfl rfl (by omega) (hNr _ (by omega)) rfl (by omega) (by omega) ?_
          show am_E _ (135, [vR x, vR o, vI b, vI st, vI t, vI r, vI (am_w (w + 1)), vI i, vI 1, v9], [vI (tN ((t.toNat : Nat) : Int) (v_12 - 1))], aq_h m s F c) _
          have f_13 := hNt ((t.toNat : Nat) : Int) (v_12 - 1) (by omega) (by omega) (by omega) (by omega)
          refine am_E.go (t2 := (137, [vR x, vR o, vI b, vI st, vI t, vI r, vI (am_w (w + 1)), vI i, vI 1, vI (tN ((t.toNat : Nat) : Int) (v_12 - 1))], [], aq_h m s F c)) rfl rfl ?_
          refine am_E.go (t2 := (139, [vR x, vR o, vI b, vI st, vI t, vI r, vI (am_w (w + 1)), vI i, vI 1, vI (tN ((t.toNat : Nat) : Int) (v_12 - 1))], [vI (tN ((t.toNat : Nat) : Int) (v_12 - 1))], aq_h m s F c)) rfl rfl ?_
          refine am_E.go (t2 := (142, [vR x, vR o, vI b, vI st, vI t, vI r, vI (am_w (w + 1)), vI i, vI 1, vI (tN ((t.toNat : Nat) : Int) (v_12 - 1))], [vI 1000, vI (tN ((t.toNat : Nat) : Int) (v_12 - 1))], aq_h m s F c)) rfl rfl ?_
          refine ae_bin (z := (tN ((t.toNat : Nat) : Int) (v_12 - 1)) % 1000) rfl rfl (am_rem_e (by omega) (by decide)) ?_
          show am_E _ (143, [vR x, vR o, vI b, vI st, vI t, vI r, vI (am_w (w + 1)), vI i, vI 1, vI (tN ((t.toNat : Nat) : Int) (v_12 - 1))], [vI ((tN ((t.toNat : Nat) : Int) (v_12 - 1)) % 1000)], aq_h m s F c) _
          refine am_E.go (t2 := (145, [vR x, vR o, vI b, vI st, vI ((tN ((t.toNat : Nat) : Int) (v_12 - 1)) % 1000), vI r, vI (am_w (w + 1)), vI i, vI 1, vI (tN ((t.toNat : Nat) : Int) (v_12 - 1))], [], aq_h m s F c)) rfl rfl ?_
          refine am_E.go (t2 := (147, [vR x, vR o, vI b, vI st, vI ((tN ((t.toNat : Nat) : Int) (v_12 - 1)) % 1000), vI r, vI (am_w (w + 1)), vI i, vI 1, vI (tN ((t.toNat : Nat) : Int) (v_12 - 1))], [vI r], aq_h m s F c)) rfl rfl ?_
          refine am_E.go (t2 := (149, [vR x, vR o, vI b, vI st, vI ((tN ((t.toNat : Nat) : Int) (v_12 - 1)) % 1000), vI r, vI (am_w (w + 1)), vI i, vI 1, vI (tN ((t.toNat : Nat) : Int) (v_12 - 1))], [vI (tN ((t.toNat : Nat) : Int) (v_12 - 1)), vI r], aq_h m s F c)) rfl rfl ?_
          refine am_E.go (t2 := (152, [vR x, vR o, vI b, vI st, vI ((tN ((t.toNat : Nat) : Int) (v_12 - 1)) % 1000), vI r, vI (am_w (w + 1)), vI i, vI 1, vI (tN ((t.toNat : Nat) : Int) (v_12 - 1))], [vI 1000, vI (tN ((t.toNat : Nat) : Int) (v_12 - 1)), vI r], aq_h m s F c)) rfl rfl ?_
          refine ae_bin (z := (tN ((t.toNat : Nat) : Int) (v_12 - 1)) / 1000) rfl rfl (am_div_e (by omega) (by omega) (by decide)) ?_
          show am_E _ (153, [vR x, vR o, vI b, vI st, vI ((tN ((t.toNat : Nat) : Int) (v_12 - 1)) % 1000), vI r, vI (am_w (w + 1)), vI i, vI 1, vI (tN ((t.toNat : Nat) : Int) (v_12 - 1))], [vI ((tN ((t.toNat : Nat) : Int) (v_12 - 1)) / 1000), vI r], aq_h m s F c) _
          refine ae_add rfl (am_ri (by omega) (by omega)) ?_
          show am_E _ (154, [vR x, vR o, vI b, vI st, vI ((tN ((t.toNat : Nat) : Int) (v_12 - 1)) % 1000), vI r, vI (am_w (w + 1)), vI i, vI 1, vI (tN ((t.toNat : Nat) : Int) (v_12 - 1))], [vI (r + ((tN ((t.toNat : Nat) : Int) (v_12 - 1)) / 1000))], aq_h m s F c) _
          refine am_E.go (t2 := (156, [vR x, vR o, vI b, vI st, vI ((tN ((t.toNat : Nat) : Int) (v_12 - 1)) % 1000), vI (r + ((tN ((t.toNat : Nat) : Int) (v_12 - 1)) / 1000)), vI (am_w (w + 1)), vI i, vI 1, vI (tN ((t.toNat : Nat) : Int) (v_12 - 1))], [], aq_h m s F c)) rfl rfl ?_
          refine ae_iinc rfl rfl (am_ri (by omega) (by omega)) ?_
          show am_E _ (159, [vR x, vR o, vI b, vI st, vI ((tN ((t.toNat : Nat) : Int) (v_12 - 1)) % 1000), vI (r + ((tN ((t.toNat : Nat) : Int) (v_12 - 1)) / 1000)), vI (am_w (w + 1)), vI (i + 1), vI 1, vI (tN ((t.toNat : Nat) : Int) (v_12 - 1))], [], aq_h m s F c) _
          refine am_E.go (t2 := (54, [vR x, vR o, vI b, vI st, vI ((tN ((t.toNat : Nat) : Int) (v_12 - 1)) % 1000), vI (r + ((tN ((t.toNat : Nat) : Int) (v_12 - 1)) / 1000)), vI (am_w (w + 1)), vI (i + 1), vI 1, vI (tN ((t.toNat : Nat) : Int) (v_12 - 1))], [], aq_h m s F c)) rfl rfl ?_
          exact qn_addStates_in ⟨hmx, hFx, hFl, hFw⟩ hSw hnx hny ⟨hl0, hl1, hl2, hl3, hl4⟩ ⟨hm, hn1, hn4, hK, hFo, hFd, hFs⟩ hSd hSs hxn hdx ⟨hL, hGg, hGr, hNg, hNr, hLt, hGt, hNt⟩ ⟨hR, hRt⟩ hst d st ((tN ((t.toNat : Nat) : Int) (v_12 - 1)) % 1000) (r + ((tN ((t.toNat : Nat) : Int) (v_12 - 1)) / 1000)) (am_w (w + 1)) (i + 1) (vI 1) (vI (tN ((t.toNat : Nat) : Int) (v_12 - 1))) c hs (by omega) (by omega) (by omega) (by omega) (by omega) (by omega) hr (by omega) K0

theorem qn_addStates_out {m s : Nat} {F : aq_F} {c0 : aq_C} {S : Nat → Prop} {x : Nat} (hX : cr_0 m F x) (hSw : S (x + 2)) (hnx : ¬ S x) (hny : ¬ S (x + 1)) (hl : cr_l x c0) {o n K : Nat} (hB : bx_0 m F o n K) (hSd : S (o + 6 + 3 * K)) (hSs : S (o + 7 + 3 * K)) (hxn : c0 x 0 = (n : Int)) (hdx : o + 6 + 3 * K ≠ x + 2) {tL : Int → Int} {tG tN : Int → Int → Int} (hT : bx_w F o n K tL tG tN) {tR : Int → Int} (hRr : bx_r F o K tR) (hst : 0 ≤ nu_o (bx_ol n 0) (2 * (n : Int)) 9 0 0 (2 * (n : Int) - 1) ∧ nu_o (bx_ol n 0) (2 * (n : Int)) 9 0 0 (2 * (n : Int) - 1) < (K : Int)) {b : Int} : ∀ (d : Nat) (st : Int) (v4 : am_V) (v5 : am_V) (v6 : am_V) (v7 : am_V) (v8 : am_V) (v9 : am_V) (c : aq_C) (hs : aq_sm S c0 c) (h0 : 0 ≤ st) (h1 : st ≤ 256) (h2 : 0 ≤ b) (h3 : b < (K : Int)) (hr : aq_rg (o + 6 + 3 * K) (2 * (n : Int)) 0 (2 * (n : Int)) c) (hd : 256 - st < (d : Int)), am_E ac_X1_addStates (32, [vR x, vR o, vI b, vI st, v4, v5, v6, v7, v8, v9], [], aq_h m s F c) (aq_Z m s F S c0 (fun r d => r = none ∧ aq_rg (o + 6 + 3 * K) (2 * (n : Int)) 0 (2 * (n : Int)) d))
  | 0, st, v4, v5, v6, v7, v8, v9, c, hs, h0, h1, h2, h3, hr, hd => by exfalso; omega
  | d + 1, st, v4, v5, v6, v7, v8, v9, c, hs, h0, h1, h2, h3, hr, hd => by
    obtain ⟨hmx, hFx, hFl, hFw⟩ := hX
    obtain ⟨hm, hn1, hn4, hK, hFo, hFd, hFs⟩ := hB
    obtain ⟨hL, hGg, hGr, hNg, hNr, hLt, hGt, hNt⟩ := hT
    obtain ⟨hR, hRt⟩ := hRr
    obtain ⟨hl0, hl1, hl2, hl3, hl4⟩ := hl
    refine am_E.go (t2 := (33, [vR x, vR o, vI b, vI st, v4, v5, v6, v7, v8, v9], [vI st], aq_h m s F c)) rfl rfl ?_
    refine am_E.go (t2 := (34, [vR x, vR o, vI b, vI st, v4, v5, v6, v7, v8, v9], [vI 1, vI st], aq_h m s F c)) rfl rfl ?_
    refine am_E.go (t2 := (35, [vR x, vR o, vI b, vI st, v4, v5, v6, v7, v8, v9], [vR x, vI 1, vI st], aq_h m s F c)) rfl rfl ?_
    refine aq_gf (v := vI (c x 1)) rfl (by omega) hFx (by decide) rfl ?_
    show am_E _ (38, [vR x, vR o, vI b, vI st, v4, v5, v6, v7, v8, v9], [vI (c x 1), vI 1, vI st], aq_h m s F c) _
    have f_1 := hs x hnx 1
    have e9 := am_shi1 (k := (c x 1)) (by omega) (by omega)
    refine ae_bin (z := am_shi 1 (c x 1)) rfl rfl rfl ?_
    refine ae_icmp rfl (fun (q_2 : (am_shi 1 (c x 1)) ≤ st) => ?_) (fun (q_2 : st < (am_shi 1 (c x 1))) => ?_)
    · refine am_E.ret rfl rfl ?_
      exact ⟨_, rfl, hs, rfl, hr⟩
    · refine am_E.go (t2 := (43, [vR x, vR o, vI b, vI st, v4, v5, v6, v7, v8, v9], [vI b], aq_h m s F c)) rfl rfl ?_
      refine am_E.go (t2 := (45, [vR x, vR o, vI b, vI st, vI b, v5, v6, v7, v8, v9], [], aq_h m s F c)) rfl rfl ?_
      refine am_E.go (t2 := (46, [vR x, vR o, vI b, vI st, vI b, v5, v6, v7, v8, v9], [vI 0], aq_h m s F c)) rfl rfl ?_
      refine am_E.go (t2 := (48, [vR x, vR o, vI b, vI st, vI b, vI 0, v6, v7, v8, v9], [], aq_h m s F c)) rfl rfl ?_
      refine am_E.go (t2 := (49, [vR x, vR o, vI b, vI st, vI b, vI 0, v6, v7, v8, v9], [vI 0], aq_h m s F c)) rfl rfl ?_
      refine am_E.go (t2 := (51, [vR x, vR o, vI b, vI st, vI b, vI 0, vI 0, v7, v8, v9], [], aq_h m s F c)) rfl rfl ?_
      refine am_E.go (t2 := (52, [vR x, vR o, vI b, vI st, vI b, vI 0, vI 0, v7, v8, v9], [vI 0], aq_h m s F c)) rfl rfl ?_
      refine am_E.go (t2 := (54, [vR x, vR o, vI b, vI st, vI b, vI 0, vI 0, vI 0, v8, v9], [], aq_h m s F c)) rfl rfl ?_
      refine qn_addStates_in ⟨hmx, hFx, hFl, hFw⟩ hSw hnx hny ⟨hl0, hl1, hl2, hl3, hl4⟩ ⟨hm, hn1, hn4, hK, hFo, hFd, hFs⟩ hSd hSs hxn hdx ⟨hL, hGg, hGr, hNg, hNr, hLt, hGt, hNt⟩ ⟨hR, hRt⟩ hst 9 st b 0 0 0 (v8) (v9) c hs (by omega) (by omega) (by omega) (by omega) (by omega) (by omega) hr (by omega) ?_
      · intro t2_54 r2_54 w2_54 i2_54 v82_54 v92_54 c_3 sc_3 f1_54 f2_54 f3_54 f4_54 hr2_54
        refine am_E.go (t2 := (163, [vR x, vR o, vI b, vI st, vI t2_54, vI r2_54, vI w2_54, vI i2_54, v82_54, v92_54], [vR x], aq_h m s F c_3)) rfl rfl ?_
        refine am_E.go (t2 := (165, [vR x, vR o, vI b, vI st, vI t2_54, vI r2_54, vI w2_54, vI i2_54, v82_54, v92_54], [vI w2_54, vR x], aq_h m s F c_3)) rfl rfl ?_
        refine am_E.go (t2 := (167, [vR x, vR o, vI b, vI st, vI t2_54, vI r2_54, vI w2_54, vI i2_54, v82_54, v92_54], [vI r2_54, vI w2_54, vR x], aq_h m s F c_3)) rfl rfl ?_
        refine am_E.go (t2 := (168, [vR x, vR o, vI b, vI st, vI t2_54, vI r2_54, vI w2_54, vI i2_54, v82_54, v92_54], [vR o, vI r2_54, vI w2_54, vR x], aq_h m s F c_3)) rfl rfl ?_
        refine aq_gf (v := vR (o + 2 + K)) rfl (by omega) hFo (by decide) rfl ?_
        show am_E _ (171, [vR x, vR o, vI b, vI st, vI t2_54, vI r2_54, vI w2_54, vI i2_54, v82_54, v92_54], [vR (o + 2 + K), vI r2_54, vI w2_54, vR x], aq_h m s F c_3) _
        refine am_E.go (t2 := (173, [vR x, vR o, vI b, vI st, vI t2_54, vI r2_54, vI w2_54, vI i2_54, v82_54, v92_54], [vI t2_54, vR (o + 2 + K), vI r2_54, vI w2_54, vR x], aq_h m s F c_3)) rfl rfl ?_
        refine aq_alt (ok := fun k => k == 0) rfl rfl (by omega) hR rfl (by omega) (by omega) ?_
        show am_E _ (174, [vR x, vR o, vI b, vI st, vI t2_54, vI r2_54, vI w2_54, vI i2_54, v82_54, v92_54], [vI (tR t2_54), vI r2_54, vI w2_54, vR x], aq_h m s F c_3) _
        have f_4 := hRt t2_54 (by omega) (by omega)
        refine ae_add rfl (am_ri (by omega) (by omega)) ?_
        show am_E _ (175, [vR x, vR o, vI b, vI st, vI t2_54, vI r2_54, vI w2_54, vI i2_54, v82_54, v92_54], [vI (r2_54 + (tR t2_54)), vI w2_54, vR x], aq_h m s F c_3) _
        refine am_E.go (t2 := (176, [vR x, vR o, vI b, vI st, vI t2_54, vI r2_54, vI w2_54, vI i2_54, v82_54, v92_54], [vI 1, vI (r2_54 + (tR t2_54)), vI w2_54, vR x], aq_h m s F c_3)) rfl rfl ?_
        refine ae_sub rfl (am_ri (by omega) (by omega)) ?_
        show am_E _ (177, [vR x, vR o, vI b, vI st, vI t2_54, vI r2_54, vI w2_54, vI i2_54, v82_54, v92_54], [vI ((r2_54 + (tR t2_54)) - 1), vI w2_54, vR x], aq_h m s F c_3) _
        refine aq_callv (y := 3) (as2 := [vI w2_54, vI ((r2_54 + (tR t2_54)) - 1)]) (rest := []) rfl rfl (by decide) (Nat.le_of_ble_eq_true rfl) rfl rfl (Nat.le_of_ble_eq_true rfl) (by omega) hFx rfl (Nat.le_of_ble_eq_true rfl) (qn_X1_addState (S := fun a => a = x + 2) ⟨hmx, hFx, hFl, hFw⟩ rfl (by omega) (by omega)) ?_
        rintro r5 h5 ⟨c_5, rfl, sc_5, rfl⟩
        show am_E _ (180, [vR x, vR o, vI b, vI st, vI t2_54, vI r2_54, vI w2_54, vI i2_54, v82_54, v92_54], [], aq_h m s F c_5) _
        refine ae_iinc rfl rfl (am_ri (by omega) (by omega)) ?_
        show am_E _ (183, [vR x, vR o, vI b, vI (st + 1), vI t2_54, vI r2_54, vI w2_54, vI i2_54, v82_54, v92_54], [], aq_h m s F c_5) _
        refine am_E.go (t2 := (32, [vR x, vR o, vI b, vI (st + 1), vI t2_54, vI r2_54, vI w2_54, vI i2_54, v82_54, v92_54], [], aq_h m s F c_5)) rfl rfl ?_
        exact qn_addStates_out ⟨hmx, hFx, hFl, hFw⟩ hSw hnx hny ⟨hl0, hl1, hl2, hl3, hl4⟩ ⟨hm, hn1, hn4, hK, hFo, hFd, hFs⟩ hSd hSs hxn hdx ⟨hL, hGg, hGr, hNg, hNr, hLt, hGt, hNt⟩ ⟨hR, hRt⟩ hst d (st + 1) (vI t2_54) (vI r2_54) (vI w2_54) (vI i2_54) (v82_54) (v92_54) c_5 (aq_smt sc_3 (aq_smi sc_5 (fun a h => by rw [h]; exact hSw))) (by omega) (by omega) (by omega) (by omega) (aq_rgs hr2_54 sc_5 hdx) (by omega)

theorem qn_addStates_z {m s : Nat} {F : aq_F} {c0 : aq_C} {S : Nat → Prop} {x : Nat} (hX : cr_0 m F x) (hSw : S (x + 2)) (hnx : ¬ S x) (hny : ¬ S (x + 1)) (hl : cr_l x c0) {o n K : Nat} (hB : bx_0 m F o n K) (hSd : S (o + 6 + 3 * K)) (hSs : S (o + 7 + 3 * K)) (hxn : c0 x 0 = (n : Int)) (hdx : o + 6 + 3 * K ≠ x + 2) {tL : Int → Int} {tG tN : Int → Int → Int} (hT : bx_w F o n K tL tG tN) {tR : Int → Int} (hRr : bx_r F o K tR) (hst : 0 ≤ nu_o (bx_ol n 0) (2 * (n : Int)) 9 0 0 (2 * (n : Int) - 1) ∧ nu_o (bx_ol n 0) (2 * (n : Int)) 9 0 0 (2 * (n : Int) - 1) < (K : Int)) : ∀ (d : Nat) (k : Int) (v3 : am_V) (v4 : am_V) (v5 : am_V) (v6 : am_V) (v7 : am_V) (v8 : am_V) (v9 : am_V) (c : aq_C) (hs : aq_sm S c0 c) (h0 : 0 ≤ k) (h1 : k ≤ 81) (hr : aq_rg (o + 6 + 3 * K) (2 * (n : Int)) 0 (2 * (n : Int)) c) (hd : 81 - k < (d : Int)), am_E ac_X1_addStates (2, [vR x, vR o, vI k, v3, v4, v5, v6, v7, v8, v9], [], aq_h m s F c) (aq_Z m s F S c0 (fun r d => r = none ∧ aq_rg (o + 6 + 3 * K) (2 * (n : Int)) 0 (2 * (n : Int)) d))
  | 0, k, v3, v4, v5, v6, v7, v8, v9, c, hs, h0, h1, hr, hd => by exfalso; omega
  | d + 1, k, v3, v4, v5, v6, v7, v8, v9, c, hs, h0, h1, hr, hd => by
    obtain ⟨hmx, hFx, hFl, hFw⟩ := hX
    obtain ⟨hm, hn1, hn4, hK, hFo, hFd, hFs⟩ := hB
    obtain ⟨hL, hGg, hGr, hNg, hNr, hLt, hGt, hNt⟩ := hT
    obtain ⟨hR, hRt⟩ := hRr
    obtain ⟨hl0, hl1, hl2, hl3, hl4⟩ := hl
    refine am_E.go (t2 := (3, [vR x, vR o, vI k, v3, v4, v5, v6, v7, v8, v9], [vI k], aq_h m s F c)) rfl rfl ?_
    refine am_E.go (t2 := (4, [vR x, vR o, vI k, v3, v4, v5, v6, v7, v8, v9], [vR x, vI k], aq_h m s F c)) rfl rfl ?_
    refine aq_gf (v := vR (x + 2)) rfl (by omega) hFx (by decide) rfl ?_
    show am_E _ (7, [vR x, vR o, vI k, v3, v4, v5, v6, v7, v8, v9], [vR (x + 2), vI k], aq_h m s F c) _
    refine aq_len rfl (by omega) hFw (by decide) ?_
    show am_E _ (8, [vR x, vR o, vI k, v3, v4, v5, v6, v7, v8, v9], [vI ((81 : Nat) : Int), vI k], aq_h m s F c) _
    refine ae_icmp rfl (fun (q_1 : ((81 : Nat) : Int) ≤ k) => ?_) (fun (q_1 : k < ((81 : Nat) : Int)) => ?_)
    · refine am_E.go (t2 := (25, [vR x, vR o, vI k, v3, v4, v5, v6, v7, v8, v9], [vR o], aq_h m s F c)) rfl rfl ?_
      refine am_E.go (t2 := (26, [vR x, vR o, vI k, v3, v4, v5, v6, v7, v8, v9], [vI 0, vR o], aq_h m s F c)) rfl rfl ?_
      refine aq_callv (y := 2) (as2 := [vI 0]) (rest := []) rfl rfl (by decide) (Nat.le_of_ble_eq_true rfl) rfl rfl (Nat.le_of_ble_eq_true rfl) (by omega) hFo rfl (Nat.le_of_ble_eq_true rfl) (qn_X0_ofLetter ⟨hm, hn1, hn4, hK, hFo, hFd, hFs⟩ hSd hSs hr) ?_
      rintro r5 h5 ⟨c_2, rfl, sc_2, hrc_2, hc_2⟩
      rcases hc_2 with ⟨hx, _⟩ | ⟨_, hy, rfl⟩
      · exact absurd (Or.inl rfl) hx
      have e7 := nu_oc hy (fun i h1 h2 => by have := hrc_2 i h1 h2; omega) 9 0 0 (2 * (n : Int) - 1) (by omega)
      show am_E _ (29, [vR x, vR o, vI k, v3, v4, v5, v6, v7, v8, v9], [vI (nu_o (c_2 (o + 6 + 3 * K)) (2 * (n : Int)) 9 0 0 (2 * (n : Int) - 1))], aq_h m s F c_2) _
      refine am_E.go (t2 := (30, [vR x, vR o, vI (nu_o (c_2 (o + 6 + 3 * K)) (2 * (n : Int)) 9 0 0 (2 * (n : Int) - 1)), v3, v4, v5, v6, v7, v8, v9], [], aq_h m s F c_2)) rfl rfl ?_
      refine am_E.go (t2 := (31, [vR x, vR o, vI (nu_o (c_2 (o + 6 + 3 * K)) (2 * (n : Int)) 9 0 0 (2 * (n : Int) - 1)), v3, v4, v5, v6, v7, v8, v9], [vI 0], aq_h m s F c_2)) rfl rfl ?_
      refine am_E.go (t2 := (32, [vR x, vR o, vI (nu_o (c_2 (o + 6 + 3 * K)) (2 * (n : Int)) 9 0 0 (2 * (n : Int) - 1)), vI 0, v4, v5, v6, v7, v8, v9], [], aq_h m s F c_2)) rfl rfl ?_
      exact qn_addStates_out ⟨hmx, hFx, hFl, hFw⟩ hSw hnx hny ⟨hl0, hl1, hl2, hl3, hl4⟩ ⟨hm, hn1, hn4, hK, hFo, hFd, hFs⟩ hSd hSs hxn hdx ⟨hL, hGg, hGr, hNg, hNr, hLt, hGt, hNt⟩ ⟨hR, hRt⟩ hst 258 0 (v4) (v5) (v6) (v7) (v8) (v9) c_2 (aq_smt hs sc_2) (by omega) (by omega) (by omega) (by omega) hrc_2 (by omega)
    · refine am_E.go (t2 := (12, [vR x, vR o, vI k, v3, v4, v5, v6, v7, v8, v9], [vR x], aq_h m s F c)) rfl rfl ?_
      refine aq_gf (v := vR (x + 2)) rfl (by omega) hFx (by decide) rfl ?_
      show am_E _ (15, [vR x, vR o, vI k, v3, v4, v5, v6, v7, v8, v9], [vR (x + 2)], aq_h m s F c) _
      refine am_E.go (t2 := (16, [vR x, vR o, vI k, v3, v4, v5, v6, v7, v8, v9], [vI k, vR (x + 2)], aq_h m s F c)) rfl rfl ?_
      refine am_E.go (t2 := (17, [vR x, vR o, vI k, v3, v4, v5, v6, v7, v8, v9], [vI 0, vI k, vR (x + 2)], aq_h m s F c)) rfl rfl ?_
      refine aq_as (kd := 0) rfl rfl (by omega) hFw (by omega) (by omega) rfl rfl ?_
      show am_E _ (18, [vR x, vR o, vI k, v3, v4, v5, v6, v7, v8, v9], [], aq_h m s F (aq_u c (x + 2) k 0)) _
      generalize hdc_3 : aq_u c (x + 2) k 0 = c_3
      have sc_3 := aq_smu hs hdc_3 hSw
      have hdrc_3 := aq_rgn hr hdc_3 hdx
      refine ae_iinc rfl rfl (am_ri (by omega) (by omega)) ?_
      show am_E _ (21, [vR x, vR o, vI (k + 1), v3, v4, v5, v6, v7, v8, v9], [], aq_h m s F c_3) _
      refine am_E.go (t2 := (2, [vR x, vR o, vI (k + 1), v3, v4, v5, v6, v7, v8, v9], [], aq_h m s F c_3)) rfl rfl ?_
      exact qn_addStates_z ⟨hmx, hFx, hFl, hFw⟩ hSw hnx hny ⟨hl0, hl1, hl2, hl3, hl4⟩ ⟨hm, hn1, hn4, hK, hFo, hFd, hFs⟩ hSd hSs hxn hdx ⟨hL, hGg, hGr, hNg, hNr, hLt, hGt, hNt⟩ ⟨hR, hRt⟩ hst d (k + 1) (v3) (v4) (v5) (v6) (v7) (v8) (v9) c_3 sc_3 (by omega) (by omega) hdrc_3 (by omega)

theorem qn_X1_addStates {m s : Nat} {F : aq_F} {c : aq_C} {S : Nat → Prop} {x : Nat} (hX : cr_0 m F x) (hSw : S (x + 2)) (hnx : ¬ S x) (hny : ¬ S (x + 1)) (hl : cr_l x c) {o n K : Nat} (hB : bx_0 m F o n K) (hSd : S (o + 6 + 3 * K)) (hSs : S (o + 7 + 3 * K)) (hxn : c x 0 = (n : Int)) (hdx : o + 6 + 3 * K ≠ x + 2) {tL : Int → Int} {tG tN : Int → Int → Int} (hT : bx_w F o n K tL tG tN) {tR : Int → Int} (hRr : bx_r F o K tR) (hst : 0 ≤ nu_o (bx_ol n 0) (2 * (n : Int)) 9 0 0 (2 * (n : Int) - 1) ∧ nu_o (bx_ol n 0) (2 * (n : Int)) 9 0 0 (2 * (n : Int) - 1) < (K : Int)) (hr : aq_rg (o + 6 + 3 * K) (2 * (n : Int)) 0 (2 * (n : Int)) c) : am_E ac_X1_addStates (0, [vR x, vR o, vU, vU, vU, vU, vU, vU, vU, vU], [], aq_h m s F c) (aq_Z m s F S c (fun r d => r = none ∧ aq_rg (o + 6 + 3 * K) (2 * (n : Int)) 0 (2 * (n : Int)) d)) := by
  obtain ⟨hmx, hFx, hFl, hFw⟩ := hX
  obtain ⟨hm, hn1, hn4, hK, hFo, hFd, hFs⟩ := hB
  obtain ⟨hL, hGg, hGr, hNg, hNr, hLt, hGt, hNt⟩ := hT
  obtain ⟨hR, hRt⟩ := hRr
  obtain ⟨hl0, hl1, hl2, hl3, hl4⟩ := hl
  refine am_E.go (t2 := (1, [vR x, vR o, vU, vU, vU, vU, vU, vU, vU, vU], [vI 0], aq_h m s F c)) rfl rfl ?_
  refine am_E.go (t2 := (2, [vR x, vR o, vI 0, vU, vU, vU, vU, vU, vU, vU], [], aq_h m s F c)) rfl rfl ?_
  exact qn_addStates_z ⟨hmx, hFx, hFl, hFw⟩ hSw hnx hny ⟨hl0, hl1, hl2, hl3, hl4⟩ ⟨hm, hn1, hn4, hK, hFo, hFd, hFs⟩ hSd hSs hxn hdx ⟨hL, hGg, hGr, hNg, hNr, hLt, hGt, hNt⟩ ⟨hR, hRt⟩ hst 83 0 (vU) (vU) (vU) (vU) (vU) (vU) (vU) c aq_sm0 (by omega) (by omega) hr (by omega)
end
