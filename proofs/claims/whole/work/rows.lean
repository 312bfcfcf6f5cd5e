section
-- ===== PART A: goes FIRST, ahead of the names: the tables' words, and 'selects' of the private methods out of them =====
/-- a private method of a class that the tables say can be made, by its rows of tables_1 -/
def lw_okq (q : MethodName × Nat) : Prop := (q.1.cls ≠ "java/lang/invoke/MethodHandle" ∧ q.1.cls ≠ "java/lang/invoke/VarHandle") ∧ Cond.instantiable q.1.cls q.2 ∈ tables_1 ∧ Cond.privateMethod q.1 ∈ tables_1 ∧ Cond.instanceMethod q.1 ∈ tables_1
theorem lw_p0 : lw_okq (⟨"WeirWords", "finding", "(I)I"⟩, 10) := ⟨⟨by decide +kernel, by decide +kernel⟩, List.mem_of_getElem? (i := 13) (by decide +kernel), List.mem_of_getElem? (i := 183) (by decide +kernel), List.mem_of_getElem? (i := 184) (by decide +kernel)⟩
theorem lw_p1 : lw_okq (⟨"WeirWords", "unfound", "(I)I"⟩, 10) := ⟨⟨by decide +kernel, by decide +kernel⟩, List.mem_of_getElem? (i := 13) (by decide +kernel), List.mem_of_getElem? (i := 192) (by decide +kernel), List.mem_of_getElem? (i := 193) (by decide +kernel)⟩
theorem lw_p2 : lw_okq (⟨"WeirWords$Tape", "readLaw", "(LWeirWords$River;)Z"⟩, 4) := ⟨⟨by decide +kernel, by decide +kernel⟩, List.mem_of_getElem? (i := 44) (by decide +kernel), List.mem_of_getElem? (i := 263) (by decide +kernel), List.mem_of_getElem? (i := 264) (by decide +kernel)⟩
theorem lw_p3 : lw_okq (⟨"WeirWords$Tape", "passes", "(C)Z"⟩, 4) := ⟨⟨by decide +kernel, by decide +kernel⟩, List.mem_of_getElem? (i := 44) (by decide +kernel), List.mem_of_getElem? (i := 267) (by decide +kernel), List.mem_of_getElem? (i := 268) (by decide +kernel)⟩
theorem lw_p4 : lw_okq (⟨"WeirWords$Tape", "isAt", "(C)Z"⟩, 4) := ⟨⟨by decide +kernel, by decide +kernel⟩, List.mem_of_getElem? (i := 44) (by decide +kernel), List.mem_of_getElem? (i := 271) (by decide +kernel), List.mem_of_getElem? (i := 272) (by decide +kernel)⟩
theorem lw_p5 : lw_okq (⟨"WeirWords$Tape", "faulty", "(I)Z"⟩, 4) := ⟨⟨by decide +kernel, by decide +kernel⟩, List.mem_of_getElem? (i := 44) (by decide +kernel), List.mem_of_getElem? (i := 275) (by decide +kernel), List.mem_of_getElem? (i := 276) (by decide +kernel)⟩
theorem lw_p6 : lw_okq (⟨"WeirWords$Tape", "readNumber", "(II)I"⟩, 4) := ⟨⟨by decide +kernel, by decide +kernel⟩, List.mem_of_getElem? (i := 44) (by decide +kernel), List.mem_of_getElem? (i := 279) (by decide +kernel), List.mem_of_getElem? (i := 280) (by decide +kernel)⟩
theorem lw_p7 : lw_okq (⟨"WeirWords$Tape", "figuresFrom", "(I)I"⟩, 4) := ⟨⟨by decide +kernel, by decide +kernel⟩, List.mem_of_getElem? (i := 44) (by decide +kernel), List.mem_of_getElem? (i := 283) (by decide +kernel), List.mem_of_getElem? (i := 284) (by decide +kernel)⟩
theorem lw_p8 : lw_okq (⟨"WeirWords$Tape", "readCells", "(LWeirWords$River;)Z"⟩, 4) := ⟨⟨by decide +kernel, by decide +kernel⟩, List.mem_of_getElem? (i := 44) (by decide +kernel), List.mem_of_getElem? (i := 287) (by decide +kernel), List.mem_of_getElem? (i := 288) (by decide +kernel)⟩
theorem lw_p9 : lw_okq (⟨"WeirWords$Tape", "readCell", "(LWeirWords$River;)Z"⟩, 4) := ⟨⟨by decide +kernel, by decide +kernel⟩, List.mem_of_getElem? (i := 44) (by decide +kernel), List.mem_of_getElem? (i := 291) (by decide +kernel), List.mem_of_getElem? (i := 292) (by decide +kernel)⟩
theorem lw_p10 : lw_okq (⟨"WeirWords$Tape", "readWords", "(LWeirWords$River;)Z"⟩, 4) := ⟨⟨by decide +kernel, by decide +kernel⟩, List.mem_of_getElem? (i := 44) (by decide +kernel), List.mem_of_getElem? (i := 295) (by decide +kernel), List.mem_of_getElem? (i := 296) (by decide +kernel)⟩
theorem lw_p11 : lw_okq (⟨"WeirWords$Tape", "readWord", "(LWeirWords$River;)Z"⟩, 4) := ⟨⟨by decide +kernel, by decide +kernel⟩, List.mem_of_getElem? (i := 44) (by decide +kernel), List.mem_of_getElem? (i := 299) (by decide +kernel), List.mem_of_getElem? (i := 300) (by decide +kernel)⟩
theorem lw_p12 : lw_okq (⟨"WeirWords", "forgetActs", "()V"⟩, 10) := ⟨⟨by decide +kernel, by decide +kernel⟩, List.mem_of_getElem? (i := 13) (by decide +kernel), List.mem_of_getElem? (i := 319) (by decide +kernel), List.mem_of_getElem? (i := 320) (by decide +kernel)⟩
theorem lw_p13 : lw_okq (⟨"WeirWords", "hasRiver", "()Z"⟩, 10) := ⟨⟨by decide +kernel, by decide +kernel⟩, List.mem_of_getElem? (i := 13) (by decide +kernel), List.mem_of_getElem? (i := 331) (by decide +kernel), List.mem_of_getElem? (i := 332) (by decide +kernel)⟩
theorem lw_p14 : lw_okq (⟨"WeirWords", "keepAct", "()V"⟩, 10) := ⟨⟨by decide +kernel, by decide +kernel⟩, List.mem_of_getElem? (i := 13) (by decide +kernel), List.mem_of_getElem? (i := 336) (by decide +kernel), List.mem_of_getElem? (i := 337) (by decide +kernel)⟩
theorem lw_p15 : lw_okq (⟨"WeirWords$River", "climbed", "(IIZ)I"⟩, 8) := ⟨⟨by decide +kernel, by decide +kernel⟩, List.mem_of_getElem? (i := 92) (by decide +kernel), List.mem_of_getElem? (i := 366) (by decide +kernel), List.mem_of_getElem? (i := 367) (by decide +kernel)⟩
def lw_privs_1 : List (MethodName × Nat) := [(⟨"WeirWords", "finding", "(I)I"⟩, 10), (⟨"WeirWords", "unfound", "(I)I"⟩, 10), (⟨"WeirWords$Tape", "readLaw", "(LWeirWords$River;)Z"⟩, 4), (⟨"WeirWords$Tape", "passes", "(C)Z"⟩, 4), (⟨"WeirWords$Tape", "isAt", "(C)Z"⟩, 4), (⟨"WeirWords$Tape", "faulty", "(I)Z"⟩, 4), (⟨"WeirWords$Tape", "readNumber", "(II)I"⟩, 4), (⟨"WeirWords$Tape", "figuresFrom", "(I)I"⟩, 4), (⟨"WeirWords$Tape", "readCells", "(LWeirWords$River;)Z"⟩, 4), (⟨"WeirWords$Tape", "readCell", "(LWeirWords$River;)Z"⟩, 4), (⟨"WeirWords$Tape", "readWords", "(LWeirWords$River;)Z"⟩, 4), (⟨"WeirWords$Tape", "readWord", "(LWeirWords$River;)Z"⟩, 4), (⟨"WeirWords", "forgetActs", "()V"⟩, 10), (⟨"WeirWords", "hasRiver", "()Z"⟩, 10), (⟨"WeirWords", "keepAct", "()V"⟩, 10), (⟨"WeirWords$River", "climbed", "(IIZ)I"⟩, 8)]
theorem lw_r1 : ∀ q ∈ lw_privs_1, lw_okq q := List.forall_mem_cons.mpr ⟨lw_p0, List.forall_mem_cons.mpr ⟨lw_p1, List.forall_mem_cons.mpr ⟨lw_p2, List.forall_mem_cons.mpr ⟨lw_p3, List.forall_mem_cons.mpr ⟨lw_p4, List.forall_mem_cons.mpr ⟨lw_p5, List.forall_mem_cons.mpr ⟨lw_p6, List.forall_mem_cons.mpr ⟨lw_p7, List.forall_mem_cons.mpr ⟨lw_p8, List.forall_mem_cons.mpr ⟨lw_p9, List.forall_mem_cons.mpr ⟨lw_p10, List.forall_mem_cons.mpr ⟨lw_p11, List.forall_mem_cons.mpr ⟨lw_p12, List.forall_mem_cons.mpr ⟨lw_p13, List.forall_mem_cons.mpr ⟨lw_p14, List.forall_mem_cons.mpr ⟨lw_p15, fun _ h => absurd h List.not_mem_nil⟩⟩⟩⟩⟩⟩⟩⟩⟩⟩⟩⟩⟩⟩⟩⟩
theorem lw_p16 : lw_okq (⟨"WeirWords$River", "drifted", "(IIZ)I"⟩, 8) := ⟨⟨by decide +kernel, by decide +kernel⟩, List.mem_of_getElem? (i := 92) (by decide +kernel), List.mem_of_getElem? (i := 378) (by decide +kernel), List.mem_of_getElem? (i := 379) (by decide +kernel)⟩
theorem lw_p17 : lw_okq (⟨"WeirWords", "fewestSwift", "(I)I"⟩, 10) := ⟨⟨by decide +kernel, by decide +kernel⟩, List.mem_of_getElem? (i := 13) (by decide +kernel), List.mem_of_getElem? (i := 474) (by decide +kernel), List.mem_of_getElem? (i := 475) (by decide +kernel)⟩
theorem lw_p18 : lw_okq (⟨"WeirWords", "fittingSorts", "(I[III)I"⟩, 10) := ⟨⟨by decide +kernel, by decide +kernel⟩, List.mem_of_getElem? (i := 13) (by decide +kernel), List.mem_of_getElem? (i := 508) (by decide +kernel), List.mem_of_getElem? (i := 509) (by decide +kernel)⟩
theorem lw_p19 : lw_okq (⟨"WeirWords", "fittingStarts", "(I[III)I"⟩, 10) := ⟨⟨by decide +kernel, by decide +kernel⟩, List.mem_of_getElem? (i := 13) (by decide +kernel), List.mem_of_getElem? (i := 516) (by decide +kernel), List.mem_of_getElem? (i := 517) (by decide +kernel)⟩
theorem lw_p20 : lw_okq (⟨"WeirWords", "fittingRains", "(I[III)I"⟩, 10) := ⟨⟨by decide +kernel, by decide +kernel⟩, List.mem_of_getElem? (i := 13) (by decide +kernel), List.mem_of_getElem? (i := 520) (by decide +kernel), List.mem_of_getElem? (i := 521) (by decide +kernel)⟩
theorem lw_p21 : lw_okq (⟨"WeirWords", "fittingSizes", "(I[III)I"⟩, 10) := ⟨⟨by decide +kernel, by decide +kernel⟩, List.mem_of_getElem? (i := 13) (by decide +kernel), List.mem_of_getElem? (i := 524) (by decide +kernel), List.mem_of_getElem? (i := 525) (by decide +kernel)⟩
theorem lw_p22 : lw_okq (⟨"WeirWords", "fitsSize", "(II[III)Z"⟩, 10) := ⟨⟨by decide +kernel, by decide +kernel⟩, List.mem_of_getElem? (i := 13) (by decide +kernel), List.mem_of_getElem? (i := 528) (by decide +kernel), List.mem_of_getElem? (i := 529) (by decide +kernel)⟩
theorem lw_p23 : lw_okq (⟨"WeirWords", "leastFittingSize", "(I[III)I"⟩, 10) := ⟨⟨by decide +kernel, by decide +kernel⟩, List.mem_of_getElem? (i := 13) (by decide +kernel), List.mem_of_getElem? (i := 532) (by decide +kernel), List.mem_of_getElem? (i := 533) (by decide +kernel)⟩
theorem lw_p24 : lw_okq (⟨"WeirWords$Asks", "stickSize", "()I"⟩, 6) := ⟨⟨by decide +kernel, by decide +kernel⟩, List.mem_of_getElem? (i := 66) (by decide +kernel), List.mem_of_getElem? (i := 593) (by decide +kernel), List.mem_of_getElem? (i := 594) (by decide +kernel)⟩
theorem lw_p25 : lw_okq (⟨"WeirWords$Asks", "leave", "(I)V"⟩, 6) := ⟨⟨by decide +kernel, by decide +kernel⟩, List.mem_of_getElem? (i := 66) (by decide +kernel), List.mem_of_getElem? (i := 597) (by decide +kernel), List.mem_of_getElem? (i := 598) (by decide +kernel)⟩
theorem lw_p26 : lw_okq (⟨"WeirWords$Asks", "lentSize", "()I"⟩, 6) := ⟨⟨by decide +kernel, by decide +kernel⟩, List.mem_of_getElem? (i := 66) (by decide +kernel), List.mem_of_getElem? (i := 601) (by decide +kernel), List.mem_of_getElem? (i := 602) (by decide +kernel)⟩
theorem lw_p27 : lw_okq (⟨"WeirWords$Asks", "anyStickMark", "()I"⟩, 6) := ⟨⟨by decide +kernel, by decide +kernel⟩, List.mem_of_getElem? (i := 66) (by decide +kernel), List.mem_of_getElem? (i := 605) (by decide +kernel), List.mem_of_getElem? (i := 606) (by decide +kernel)⟩
theorem lw_p28 : lw_okq (⟨"WeirWords$Asks", "stickMark", "()I"⟩, 6) := ⟨⟨by decide +kernel, by decide +kernel⟩, List.mem_of_getElem? (i := 66) (by decide +kernel), List.mem_of_getElem? (i := 609) (by decide +kernel), List.mem_of_getElem? (i := 610) (by decide +kernel)⟩
theorem lw_p29 : lw_okq (⟨"WeirWords$Asks", "lentMark", "()I"⟩, 6) := ⟨⟨by decide +kernel, by decide +kernel⟩, List.mem_of_getElem? (i := 66) (by decide +kernel), List.mem_of_getElem? (i := 613) (by decide +kernel), List.mem_of_getElem? (i := 614) (by decide +kernel)⟩
theorem lw_p30 : lw_okq (⟨"WeirWords$Asks", "salmonOrEelSize", "()I"⟩, 6) := ⟨⟨by decide +kernel, by decide +kernel⟩, List.mem_of_getElem? (i := 66) (by decide +kernel), List.mem_of_getElem? (i := 617) (by decide +kernel), List.mem_of_getElem? (i := 618) (by decide +kernel)⟩
theorem lw_p31 : lw_okq (⟨"WeirWords$Asks", "salmonSize", "()I"⟩, 6) := ⟨⟨by decide +kernel, by decide +kernel⟩, List.mem_of_getElem? (i := 66) (by decide +kernel), List.mem_of_getElem? (i := 621) (by decide +kernel), List.mem_of_getElem? (i := 622) (by decide +kernel)⟩
def lw_privs_2 : List (MethodName × Nat) := [(⟨"WeirWords$River", "drifted", "(IIZ)I"⟩, 8), (⟨"WeirWords", "fewestSwift", "(I)I"⟩, 10), (⟨"WeirWords", "fittingSorts", "(I[III)I"⟩, 10), (⟨"WeirWords", "fittingStarts", "(I[III)I"⟩, 10), (⟨"WeirWords", "fittingRains", "(I[III)I"⟩, 10), (⟨"WeirWords", "fittingSizes", "(I[III)I"⟩, 10), (⟨"WeirWords", "fitsSize", "(II[III)Z"⟩, 10), (⟨"WeirWords", "leastFittingSize", "(I[III)I"⟩, 10), (⟨"WeirWords$Asks", "stickSize", "()I"⟩, 6), (⟨"WeirWords$Asks", "leave", "(I)V"⟩, 6), (⟨"WeirWords$Asks", "lentSize", "()I"⟩, 6), (⟨"WeirWords$Asks", "anyStickMark", "()I"⟩, 6), (⟨"WeirWords$Asks", "stickMark", "()I"⟩, 6), (⟨"WeirWords$Asks", "lentMark", "()I"⟩, 6), (⟨"WeirWords$Asks", "salmonOrEelSize", "()I"⟩, 6), (⟨"WeirWords$Asks", "salmonSize", "()I"⟩, 6)]
theorem lw_r2 : ∀ q ∈ lw_privs_2, lw_okq q := List.forall_mem_cons.mpr ⟨lw_p16, List.forall_mem_cons.mpr ⟨lw_p17, List.forall_mem_cons.mpr ⟨lw_p18, List.forall_mem_cons.mpr ⟨lw_p19, List.forall_mem_cons.mpr ⟨lw_p20, List.forall_mem_cons.mpr ⟨lw_p21, List.forall_mem_cons.mpr ⟨lw_p22, List.forall_mem_cons.mpr ⟨lw_p23, List.forall_mem_cons.mpr ⟨lw_p24, List.forall_mem_cons.mpr ⟨lw_p25, List.forall_mem_cons.mpr ⟨lw_p26, List.forall_mem_cons.mpr ⟨lw_p27, List.forall_mem_cons.mpr ⟨lw_p28, List.forall_mem_cons.mpr ⟨lw_p29, List.forall_mem_cons.mpr ⟨lw_p30, List.forall_mem_cons.mpr ⟨lw_p31, fun _ h => absurd h List.not_mem_nil⟩⟩⟩⟩⟩⟩⟩⟩⟩⟩⟩⟩⟩⟩⟩⟩
theorem lw_p32 : lw_okq (⟨"WeirWords$Asks", "salmonMark", "()I"⟩, 6) := ⟨⟨by decide +kernel, by decide +kernel⟩, List.mem_of_getElem? (i := 66) (by decide +kernel), List.mem_of_getElem? (i := 629) (by decide +kernel), List.mem_of_getElem? (i := 630) (by decide +kernel)⟩
theorem lw_p33 : lw_okq (⟨"WeirWordsModel", "found", "(I)I"⟩, 22) := ⟨⟨by decide +kernel, by decide +kernel⟩, List.mem_of_getElem? (i := 654) (by decide +kernel), List.mem_of_getElem? (i := 740) (by decide +kernel), List.mem_of_getElem? (i := 741) (by decide +kernel)⟩
theorem lw_p34 : lw_okq (⟨"WeirWordsModel", "well", "(I)I"⟩, 22) := ⟨⟨by decide +kernel, by decide +kernel⟩, List.mem_of_getElem? (i := 654) (by decide +kernel), List.mem_of_getElem? (i := 745) (by decide +kernel), List.mem_of_getElem? (i := 746) (by decide +kernel)⟩
theorem lw_p35 : lw_okq (⟨"WeirWordsModel", "isMissing", "(I)Z"⟩, 22) := ⟨⟨by decide +kernel, by decide +kernel⟩, List.mem_of_getElem? (i := 654) (by decide +kernel), List.mem_of_getElem? (i := 753) (by decide +kernel), List.mem_of_getElem? (i := 754) (by decide +kernel)⟩
theorem lw_p36 : lw_okq (⟨"WeirWordsModel", "isPart", "(III)Z"⟩, 22) := ⟨⟨by decide +kernel, by decide +kernel⟩, List.mem_of_getElem? (i := 654) (by decide +kernel), List.mem_of_getElem? (i := 764) (by decide +kernel), List.mem_of_getElem? (i := 765) (by decide +kernel)⟩
theorem lw_p37 : lw_okq (⟨"WeirWordsModel", "advances", "()V"⟩, 22) := ⟨⟨by decide +kernel, by decide +kernel⟩, List.mem_of_getElem? (i := 654) (by decide +kernel), List.mem_of_getElem? (i := 781) (by decide +kernel), List.mem_of_getElem? (i := 782) (by decide +kernel)⟩
theorem lw_p38 : lw_okq (⟨"WeirWordsModel", "byteAt", "(I)I"⟩, 22) := ⟨⟨by decide +kernel, by decide +kernel⟩, List.mem_of_getElem? (i := 654) (by decide +kernel), List.mem_of_getElem? (i := 785) (by decide +kernel), List.mem_of_getElem? (i := 786) (by decide +kernel)⟩
theorem lw_p39 : lw_okq (⟨"WeirWordsModel", "takes", "(ZI)I"⟩, 22) := ⟨⟨by decide +kernel, by decide +kernel⟩, List.mem_of_getElem? (i := 654) (by decide +kernel), List.mem_of_getElem? (i := 789) (by decide +kernel), List.mem_of_getElem? (i := 790) (by decide +kernel)⟩
theorem lw_p40 : lw_okq (⟨"WeirWordsModel", "isWell", "()Z"⟩, 22) := ⟨⟨by decide +kernel, by decide +kernel⟩, List.mem_of_getElem? (i := 654) (by decide +kernel), List.mem_of_getElem? (i := 793) (by decide +kernel), List.mem_of_getElem? (i := 794) (by decide +kernel)⟩
theorem lw_p41 : lw_okq (⟨"WeirWordsModel", "figure", "(II)I"⟩, 22) := ⟨⟨by decide +kernel, by decide +kernel⟩, List.mem_of_getElem? (i := 654) (by decide +kernel), List.mem_of_getElem? (i := 797) (by decide +kernel), List.mem_of_getElem? (i := 798) (by decide +kernel)⟩
theorem lw_p42 : lw_okq (⟨"WeirWordsModel", "follows", "(II)I"⟩, 22) := ⟨⟨by decide +kernel, by decide +kernel⟩, List.mem_of_getElem? (i := 654) (by decide +kernel), List.mem_of_getElem? (i := 801) (by decide +kernel), List.mem_of_getElem? (i := 802) (by decide +kernel)⟩
theorem lw_p43 : lw_okq (⟨"WeirWordsModel", "readsCell", "()V"⟩, 22) := ⟨⟨by decide +kernel, by decide +kernel⟩, List.mem_of_getElem? (i := 654) (by decide +kernel), List.mem_of_getElem? (i := 805) (by decide +kernel), List.mem_of_getElem? (i := 806) (by decide +kernel)⟩
theorem lw_p44 : lw_okq (⟨"WeirWordsModel", "must", "(Z)V"⟩, 22) := ⟨⟨by decide +kernel, by decide +kernel⟩, List.mem_of_getElem? (i := 654) (by decide +kernel), List.mem_of_getElem? (i := 809) (by decide +kernel), List.mem_of_getElem? (i := 810) (by decide +kernel)⟩
theorem lw_p45 : lw_okq (⟨"WeirWordsModel", "readsWord", "()V"⟩, 22) := ⟨⟨by decide +kernel, by decide +kernel⟩, List.mem_of_getElem? (i := 654) (by decide +kernel), List.mem_of_getElem? (i := 816) (by decide +kernel), List.mem_of_getElem? (i := 817) (by decide +kernel)⟩
theorem lw_p46 : lw_okq (⟨"WeirWordsModel", "isRiver", "()Z"⟩, 22) := ⟨⟨by decide +kernel, by decide +kernel⟩, List.mem_of_getElem? (i := 654) (by decide +kernel), List.mem_of_getElem? (i := 832) (by decide +kernel), List.mem_of_getElem? (i := 833) (by decide +kernel)⟩
theorem lw_p47 : lw_okq (⟨"WeirWordsModel", "notes", "()V"⟩, 22) := ⟨⟨by decide +kernel, by decide +kernel⟩, List.mem_of_getElem? (i := 654) (by decide +kernel), List.mem_of_getElem? (i := 837) (by decide +kernel), List.mem_of_getElem? (i := 838) (by decide +kernel)⟩
def lw_privs_3 : List (MethodName × Nat) := [(⟨"WeirWords$Asks", "salmonMark", "()I"⟩, 6), (⟨"WeirWordsModel", "found", "(I)I"⟩, 22), (⟨"WeirWordsModel", "well", "(I)I"⟩, 22), (⟨"WeirWordsModel", "isMissing", "(I)Z"⟩, 22), (⟨"WeirWordsModel", "isPart", "(III)Z"⟩, 22), (⟨"WeirWordsModel", "advances", "()V"⟩, 22), (⟨"WeirWordsModel", "byteAt", "(I)I"⟩, 22), (⟨"WeirWordsModel", "takes", "(ZI)I"⟩, 22), (⟨"WeirWordsModel", "isWell", "()Z"⟩, 22), (⟨"WeirWordsModel", "figure", "(II)I"⟩, 22), (⟨"WeirWordsModel", "follows", "(II)I"⟩, 22), (⟨"WeirWordsModel", "readsCell", "()V"⟩, 22), (⟨"WeirWordsModel", "must", "(Z)V"⟩, 22), (⟨"WeirWordsModel", "readsWord", "()V"⟩, 22), (⟨"WeirWordsModel", "isRiver", "()Z"⟩, 22), (⟨"WeirWordsModel", "notes", "()V"⟩, 22)]
theorem lw_r3 : ∀ q ∈ lw_privs_3, lw_okq q := List.forall_mem_cons.mpr ⟨lw_p32, List.forall_mem_cons.mpr ⟨lw_p33, List.forall_mem_cons.mpr ⟨lw_p34, List.forall_mem_cons.mpr ⟨lw_p35, List.forall_mem_cons.mpr ⟨lw_p36, List.forall_mem_cons.mpr ⟨lw_p37, List.forall_mem_cons.mpr ⟨lw_p38, List.forall_mem_cons.mpr ⟨lw_p39, List.forall_mem_cons.mpr ⟨lw_p40, List.forall_mem_cons.mpr ⟨lw_p41, List.forall_mem_cons.mpr ⟨lw_p42, List.forall_mem_cons.mpr ⟨lw_p43, List.forall_mem_cons.mpr ⟨lw_p44, List.forall_mem_cons.mpr ⟨lw_p45, List.forall_mem_cons.mpr ⟨lw_p46, List.forall_mem_cons.mpr ⟨lw_p47, fun _ h => absurd h List.not_mem_nil⟩⟩⟩⟩⟩⟩⟩⟩⟩⟩⟩⟩⟩⟩⟩⟩
theorem lw_p48 : lw_okq (⟨"WeirWordsModel", "isWord", "(I)Z"⟩, 22) := ⟨⟨by decide +kernel, by decide +kernel⟩, List.mem_of_getElem? (i := 654) (by decide +kernel), List.mem_of_getElem? (i := 866) (by decide +kernel), List.mem_of_getElem? (i := 867) (by decide +kernel)⟩
theorem lw_p49 : lw_okq (⟨"WeirWordsModel", "isCell", "(I)Z"⟩, 22) := ⟨⟨by decide +kernel, by decide +kernel⟩, List.mem_of_getElem? (i := 654) (by decide +kernel), List.mem_of_getElem? (i := 870) (by decide +kernel), List.mem_of_getElem? (i := 871) (by decide +kernel)⟩
theorem lw_p50 : lw_okq (⟨"WeirWordsModel", "wordsIn", "(I)I"⟩, 22) := ⟨⟨by decide +kernel, by decide +kernel⟩, List.mem_of_getElem? (i := 654) (by decide +kernel), List.mem_of_getElem? (i := 900) (by decide +kernel), List.mem_of_getElem? (i := 901) (by decide +kernel)⟩
theorem lw_p51 : lw_okq (⟨"WeirWordsModel", "goesOn", "(I)V"⟩, 22) := ⟨⟨by decide +kernel, by decide +kernel⟩, List.mem_of_getElem? (i := 654) (by decide +kernel), List.mem_of_getElem? (i := 908) (by decide +kernel), List.mem_of_getElem? (i := 909) (by decide +kernel)⟩
theorem lw_p52 : lw_okq (⟨"WeirWordsModel", "isGone", "(I)Z"⟩, 22) := ⟨⟨by decide +kernel, by decide +kernel⟩, List.mem_of_getElem? (i := 654) (by decide +kernel), List.mem_of_getElem? (i := 956) (by decide +kernel), List.mem_of_getElem? (i := 957) (by decide +kernel)⟩
theorem lw_p53 : lw_okq (⟨"WeirWordsModel", "isSeen", "(IIIII)Z"⟩, 22) := ⟨⟨by decide +kernel, by decide +kernel⟩, List.mem_of_getElem? (i := 654) (by decide +kernel), List.mem_of_getElem? (i := 960) (by decide +kernel), List.mem_of_getElem? (i := 961) (by decide +kernel)⟩
theorem lw_p54 : lw_okq (⟨"WeirWordsModel", "kindIn", "(I)I"⟩, 22) := ⟨⟨by decide +kernel, by decide +kernel⟩, List.mem_of_getElem? (i := 654) (by decide +kernel), List.mem_of_getElem? (i := 989) (by decide +kernel), List.mem_of_getElem? (i := 990) (by decide +kernel)⟩
theorem lw_p55 : lw_okq (⟨"WeirWordsModel", "salmonSize", "(I)I"⟩, 22) := ⟨⟨by decide +kernel, by decide +kernel⟩, List.mem_of_getElem? (i := 654) (by decide +kernel), List.mem_of_getElem? (i := 1001) (by decide +kernel), List.mem_of_getElem? (i := 1002) (by decide +kernel)⟩
theorem lw_p56 : lw_okq (⟨"WeirWordsModel", "begins", "(I)V"⟩, 22) := ⟨⟨by decide +kernel, by decide +kernel⟩, List.mem_of_getElem? (i := 654) (by decide +kernel), List.mem_of_getElem? (i := 1005) (by decide +kernel), List.mem_of_getElem? (i := 1006) (by decide +kernel)⟩
theorem lw_p57 : lw_okq (⟨"WeirWordsModel", "stickSize", "(I)I"⟩, 22) := ⟨⟨by decide +kernel, by decide +kernel⟩, List.mem_of_getElem? (i := 654) (by decide +kernel), List.mem_of_getElem? (i := 1009) (by decide +kernel), List.mem_of_getElem? (i := 1010) (by decide +kernel)⟩
theorem lw_p58 : lw_okq (⟨"WeirWordsModel", "stickMark", "(I)I"⟩, 22) := ⟨⟨by decide +kernel, by decide +kernel⟩, List.mem_of_getElem? (i := 654) (by decide +kernel), List.mem_of_getElem? (i := 1013) (by decide +kernel), List.mem_of_getElem? (i := 1014) (by decide +kernel)⟩
theorem lw_p59 : lw_okq (⟨"WeirWordsModel", "salmonMark", "(I)I"⟩, 22) := ⟨⟨by decide +kernel, by decide +kernel⟩, List.mem_of_getElem? (i := 654) (by decide +kernel), List.mem_of_getElem? (i := 1017) (by decide +kernel), List.mem_of_getElem? (i := 1018) (by decide +kernel)⟩
def lw_privs_4 : List (MethodName × Nat) := [(⟨"WeirWordsModel", "isWord", "(I)Z"⟩, 22), (⟨"WeirWordsModel", "isCell", "(I)Z"⟩, 22), (⟨"WeirWordsModel", "wordsIn", "(I)I"⟩, 22), (⟨"WeirWordsModel", "goesOn", "(I)V"⟩, 22), (⟨"WeirWordsModel", "isGone", "(I)Z"⟩, 22), (⟨"WeirWordsModel", "isSeen", "(IIIII)Z"⟩, 22), (⟨"WeirWordsModel", "kindIn", "(I)I"⟩, 22), (⟨"WeirWordsModel", "salmonSize", "(I)I"⟩, 22), (⟨"WeirWordsModel", "begins", "(I)V"⟩, 22), (⟨"WeirWordsModel", "stickSize", "(I)I"⟩, 22), (⟨"WeirWordsModel", "stickMark", "(I)I"⟩, 22), (⟨"WeirWordsModel", "salmonMark", "(I)I"⟩, 22)]
theorem lw_r4 : ∀ q ∈ lw_privs_4, lw_okq q := List.forall_mem_cons.mpr ⟨lw_p48, List.forall_mem_cons.mpr ⟨lw_p49, List.forall_mem_cons.mpr ⟨lw_p50, List.forall_mem_cons.mpr ⟨lw_p51, List.forall_mem_cons.mpr ⟨lw_p52, List.forall_mem_cons.mpr ⟨lw_p53, List.forall_mem_cons.mpr ⟨lw_p54, List.forall_mem_cons.mpr ⟨lw_p55, List.forall_mem_cons.mpr ⟨lw_p56, List.forall_mem_cons.mpr ⟨lw_p57, List.forall_mem_cons.mpr ⟨lw_p58, List.forall_mem_cons.mpr ⟨lw_p59, fun _ h => absurd h List.not_mem_nil⟩⟩⟩⟩⟩⟩⟩⟩⟩⟩⟩⟩
def lw_privs : List (MethodName × Nat) := lw_privs_1 ++ (lw_privs_2 ++ (lw_privs_3 ++ (lw_privs_4)))
def lw_tbl : List Cond := k2_sels lw_privs ++ tables_1
theorem lw_privs_ok : ∀ q ∈ lw_privs, lw_okq q := by
  show ∀ q ∈ lw_privs_1 ++ (lw_privs_2 ++ (lw_privs_3 ++ (lw_privs_4))), lw_okq q
  exact List.forall_mem_append.mpr ⟨lw_r1, List.forall_mem_append.mpr ⟨lw_r2, List.forall_mem_append.mpr ⟨lw_r3, lw_r4⟩⟩⟩
end
section
def RX0 : String := "WeirWords$Asks"
def TX0 : u_T := fun k => match k with
  | 0 => ("WeirWords$Asks", "trail", "[I", true)
  | 1 => ("WeirWords$Asks", "length", "I", false)
  | 2 => ("WeirWords$Asks", "word", "I", false)
  | 3 => ("WeirWords$Asks", "kind", "I", false)
  | 4 => ("WeirWords$Asks", "size", "I", false)
  | _ => ("WeirWords$Asks", "cell", "I", false)
def tyX0 : Nat → FieldType := fun k => match k with
  | 0 => .array .int
  | 1 => .int
  | 2 => .int
  | 3 => .int
  | 4 => .int
  | _ => .int
abbrev wsX00 : List Cond := u_ws RX0 TX0 6
theorem nmX0 : ∀ a, a < 6 → ∀ b, b < 6 → a ≠ b → (TX0 a).2.1 ≠ (TX0 b).2.1 := by decide +kernel
theorem tyX0_ok : ∀ k, k < 6 → parseFieldDescriptor (TX0 k).2.2.1 = some (tyX0 k) := by decide +kernel
abbrev cX0_init : ByteArray := prog_2_method_1_code
def yX0_init : MethodName := ⟨RX0, "<init>", "()V"⟩
abbrev cX0_begin : ByteArray := prog_2_method_2_code
def yX0_begin : MethodName := ⟨RX0, "begin", "(LWeirWords$River;I)V"⟩
abbrev cX0_hasLeft : ByteArray := prog_2_method_3_code
def yX0_hasLeft : MethodName := ⟨RX0, "hasLeft", "(I)Z"⟩
abbrev cX0_askSize : ByteArray := prog_2_method_4_code
def yX0_askSize : MethodName := ⟨RX0, "askSize", "()I"⟩
abbrev cX0_askMark : ByteArray := prog_2_method_5_code
def yX0_askMark : MethodName := ⟨RX0, "askMark", "()I"⟩
abbrev cX0_anyStickMark : ByteArray := prog_2_method_6_code
def yX0_anyStickMark : MethodName := ⟨RX0, "anyStickMark", "()I"⟩
abbrev cX0_salmonOrEelSize : ByteArray := prog_2_method_7_code
def yX0_salmonOrEelSize : MethodName := ⟨RX0, "salmonOrEelSize", "()I"⟩
abbrev cX0_stickSize : ByteArray := prog_2_method_8_code
def yX0_stickSize : MethodName := ⟨RX0, "stickSize", "()I"⟩
abbrev cX0_salmonSize : ByteArray := prog_2_method_9_code
def yX0_salmonSize : MethodName := ⟨RX0, "salmonSize", "()I"⟩
abbrev cX0_lentSize : ByteArray := prog_2_method_10_code
def yX0_lentSize : MethodName := ⟨RX0, "lentSize", "()I"⟩
abbrev cX0_stickMark : ByteArray := prog_2_method_11_code
def yX0_stickMark : MethodName := ⟨RX0, "stickMark", "()I"⟩
abbrev cX0_salmonMark : ByteArray := prog_2_method_12_code
def yX0_salmonMark : MethodName := ⟨RX0, "salmonMark", "()I"⟩
abbrev cX0_lentMark : ByteArray := prog_2_method_13_code
def yX0_lentMark : MethodName := ⟨RX0, "lentMark", "()I"⟩
abbrev cX0_leave : ByteArray := prog_2_method_14_code
def yX0_leave : MethodName := ⟨RX0, "leave", "(I)V"⟩
def RX1 : String := "WeirWords$Kinds"
def TX1 : u_T := fun k => match k with
  | _ => ("", "", "", false)
def tyX1 : Nat → FieldType := fun k => match k with
  | _ => .int
abbrev wsX10 : List Cond := u_ws RX1 TX1 0
theorem nmX1 : ∀ a, a < 0 → ∀ b, b < 0 → a ≠ b → (TX1 a).2.1 ≠ (TX1 b).2.1 := by decide +kernel
theorem tyX1_ok : ∀ k, k < 0 → parseFieldDescriptor (TX1 k).2.2.1 = some (tyX1 k) := by decide +kernel
abbrev cX1_isOne : ByteArray := prog_3_method_2_code
def yX1_isOne : MethodName := ⟨RX1, "isOne", "(II)Z"⟩
abbrev cX1_byLetter : ByteArray := prog_3_method_3_code
def yX1_byLetter : MethodName := ⟨RX1, "byLetter", "(I)I"⟩
def RX2 : String := "WeirWords$River"
def TX2 : u_T := fun k => match k with
  | 0 => ("WeirWords$River", "cells", "I", false)
  | 1 => ("WeirWords$River", "words", "I", false)
  | 2 => ("WeirWords$River", "edge", "I", false)
  | 3 => ("WeirWords$River", "rainBits", "I", false)
  | 4 => ("WeirWords$River", "minute", "I", false)
  | 5 => ("WeirWords$River", "speeds", "[I", true)
  | 6 => ("WeirWords$River", "kinds", "[I", true)
  | _ => ("WeirWords$River", "said", "[I", true)
def tyX2 : Nat → FieldType := fun k => match k with
  | 0 => .int
  | 1 => .int
  | 2 => .int
  | 3 => .int
  | 4 => .int
  | 5 => .array .int
  | 6 => .array .int
  | _ => .array .int
abbrev wsX20 : List Cond := u_ws RX2 TX2 8
theorem nmX2 : ∀ a, a < 8 → ∀ b, b < 8 → a ≠ b → (TX2 a).2.1 ≠ (TX2 b).2.1 := by decide +kernel
theorem tyX2_ok : ∀ k, k < 8 → parseFieldDescriptor (TX2 k).2.2.1 = some (tyX2 k) := by decide +kernel
abbrev cX2_init : ByteArray := prog_4_method_1_code
def yX2_init : MethodName := ⟨RX2, "<init>", "()V"⟩
abbrev cX2_packed : ByteArray := prog_4_method_2_code
def yX2_packed : MethodName := ⟨RX2, "packed", "(II)I"⟩
abbrev cX2_sizeIn : ByteArray := prog_4_method_3_code
def yX2_sizeIn : MethodName := ⟨RX2, "sizeIn", "(I)I"⟩
abbrev cX2_cellIn : ByteArray := prog_4_method_4_code
def yX2_cellIn : MethodName := ⟨RX2, "cellIn", "(I)I"⟩
abbrev cX2_isGone : ByteArray := prog_4_method_5_code
def yX2_isGone : MethodName := ⟨RX2, "isGone", "(I)Z"⟩
abbrev cX2_empty : ByteArray := prog_4_method_6_code
def yX2_empty : MethodName := ⟨RX2, "empty", "()V"⟩
abbrev cX2_become : ByteArray := prog_4_method_7_code
def yX2_become : MethodName := ⟨RX2, "become", "(LWeirWords$River;)V"⟩
abbrev cX2_takeSpeeds : ByteArray := prog_4_method_8_code
def yX2_takeSpeeds : MethodName := ⟨RX2, "takeSpeeds", "(LWeirWords$River;I)V"⟩
abbrev cX2_hasCell : ByteArray := prog_4_method_9_code
def yX2_hasCell : MethodName := ⟨RX2, "hasCell", "(I)Z"⟩
abbrev cX2_hasWord : ByteArray := prog_4_method_10_code
def yX2_hasWord : MethodName := ⟨RX2, "hasWord", "(I)Z"⟩
abbrev cX2_sizeOf : ByteArray := prog_4_method_11_code
def yX2_sizeOf : MethodName := ⟨RX2, "sizeOf", "(I)I"⟩
abbrev cX2_goneBits : ByteArray := prog_4_method_12_code
def yX2_goneBits : MethodName := ⟨RX2, "goneBits", "()I"⟩
abbrev cX2_wordsIn : ByteArray := prog_4_method_13_code
def yX2_wordsIn : MethodName := ⟨RX2, "wordsIn", "(I)I"⟩
abbrev cX2_hasClimber : ByteArray := prog_4_method_14_code
def yX2_hasClimber : MethodName := ⟨RX2, "hasClimber", "()Z"⟩
abbrev cX2_isWet : ByteArray := prog_4_method_15_code
def yX2_isWet : MethodName := ⟨RX2, "isWet", "(I)Z"⟩
abbrev cX2_paceOf : ByteArray := prog_4_method_16_code
def yX2_paceOf : MethodName := ⟨RX2, "paceOf", "(IZ)I"⟩
abbrev cX2_passMinute : ByteArray := prog_4_method_17_code
def yX2_passMinute : MethodName := ⟨RX2, "passMinute", "()V"⟩
abbrev cX2_moved : ByteArray := prog_4_method_18_code
def yX2_moved : MethodName := ⟨RX2, "moved", "(IIIZ)I"⟩
abbrev cX2_drifted : ByteArray := prog_4_method_19_code
def yX2_drifted : MethodName := ⟨RX2, "drifted", "(IIZ)I"⟩
abbrev cX2_climbed : ByteArray := prog_4_method_20_code
def yX2_climbed : MethodName := ⟨RX2, "climbed", "(IIZ)I"⟩
abbrev cX2_foretold : ByteArray := prog_4_method_21_code
def yX2_foretold : MethodName := ⟨RX2, "foretold", "(II)I"⟩
abbrev cX2_foretoldIn : ByteArray := prog_4_method_22_code
def yX2_foretoldIn : MethodName := ⟨RX2, "foretoldIn", "(III)I"⟩
abbrev cX2_goneBehind : ByteArray := prog_4_method_23_code
def yX2_goneBehind : MethodName := ⟨RX2, "goneBehind", "(II)I"⟩
abbrev cX2_quarrelBehind : ByteArray := prog_4_method_24_code
def yX2_quarrelBehind : MethodName := ⟨RX2, "quarrelBehind", "(I)I"⟩
abbrev cX2_isAllGoneBehind : ByteArray := prog_4_method_25_code
def yX2_isAllGoneBehind : MethodName := ⟨RX2, "isAllGoneBehind", "(I)Z"⟩
abbrev cX2_goesAsTold : ByteArray := prog_4_method_26_code
def yX2_goesAsTold : MethodName := ⟨RX2, "goesAsTold", "(II[III)Z"⟩
abbrev cX2_sayDrawn : ByteArray := prog_4_method_27_code
def yX2_sayDrawn : MethodName := ⟨RX2, "sayDrawn", "(I)Z"⟩
def RX3 : String := "WeirWords$Rows"
def TX3 : u_T := fun k => match k with
  | 0 => ("WeirWords$Rows", "items", "[[I", true)
  | 1 => ("WeirWords$Rows", "lanes", "[I", true)
  | _ => ("WeirWords$Rows", "lengths", "[I", true)
def tyX3 : Nat → FieldType := fun k => match k with
  | 0 => .array (.array .int)
  | 1 => .array .int
  | _ => .array .int
abbrev wsX30 : List Cond := u_ws RX3 TX3 3
theorem nmX3 : ∀ a, a < 3 → ∀ b, b < 3 → a ≠ b → (TX3 a).2.1 ≠ (TX3 b).2.1 := by decide +kernel
theorem tyX3_ok : ∀ k, k < 3 → parseFieldDescriptor (TX3 k).2.2.1 = some (tyX3 k) := by decide +kernel
abbrev cX3_init : ByteArray := prog_5_method_1_code
def yX3_init : MethodName := ⟨RX3, "<init>", "()V"⟩
abbrev cX3_isRow : ByteArray := prog_5_method_2_code
def yX3_isRow : MethodName := ⟨RX3, "isRow", "(I)Z"⟩
abbrev cX3_isLane : ByteArray := prog_5_method_3_code
def yX3_isLane : MethodName := ⟨RX3, "isLane", "(I)Z"⟩
abbrev cX3_isMissing : ByteArray := prog_5_method_4_code
def yX3_isMissing : MethodName := ⟨RX3, "isMissing", "(I)Z"⟩
abbrev cX3_haveOneLane : ByteArray := prog_5_method_5_code
def yX3_haveOneLane : MethodName := ⟨RX3, "haveOneLane", "(II)Z"⟩
abbrev cX3_hasPlaces : ByteArray := prog_5_method_6_code
def yX3_hasPlaces : MethodName := ⟨RX3, "hasPlaces", "(III)Z"⟩
abbrev cX3_lay : ByteArray := prog_5_method_7_code
def yX3_lay : MethodName := ⟨RX3, "lay", "(III)V"⟩
abbrev cX3_put : ByteArray := prog_5_method_8_code
def yX3_put : MethodName := ⟨RX3, "put", "(III)I"⟩
abbrev cX3_carry : ByteArray := prog_5_method_9_code
def yX3_carry : MethodName := ⟨RX3, "carry", "(IIIII)V"⟩
abbrev cX3_lose : ByteArray := prog_5_method_10_code
def yX3_lose : MethodName := ⟨RX3, "lose", "(I)I"⟩
abbrev cX3_present : ByteArray := prog_5_method_11_code
def yX3_present : MethodName := ⟨RX3, "present", "()I"⟩
def RX4 : String := "WeirWords$Tape"
def TX4 : u_T := fun k => match k with
  | 0 => ("WeirWords$Tape", "bytes", "[I", true)
  | 1 => ("WeirWords$Tape", "length", "I", false)
  | 2 => ("WeirWords$Tape", "at", "I", false)
  | _ => ("WeirWords$Tape", "latestFault", "I", false)
def tyX4 : Nat → FieldType := fun k => match k with
  | 0 => .array .int
  | 1 => .int
  | 2 => .int
  | _ => .int
abbrev wsX40 : List Cond := u_ws RX4 TX4 4
theorem nmX4 : ∀ a, a < 4 → ∀ b, b < 4 → a ≠ b → (TX4 a).2.1 ≠ (TX4 b).2.1 := by decide +kernel
theorem tyX4_ok : ∀ k, k < 4 → parseFieldDescriptor (TX4 k).2.2.1 = some (tyX4 k) := by decide +kernel
abbrev cX4_init : ByteArray := prog_6_method_1_code
def yX4_init : MethodName := ⟨RX4, "<init>", "()V"⟩
abbrev cX4_isFull : ByteArray := prog_6_method_2_code
def yX4_isFull : MethodName := ⟨RX4, "isFull", "()Z"⟩
abbrev cX4_take : ByteArray := prog_6_method_3_code
def yX4_take : MethodName := ⟨RX4, "take", "(I)I"⟩
abbrev cX4_wipe : ByteArray := prog_6_method_4_code
def yX4_wipe : MethodName := ⟨RX4, "wipe", "()V"⟩
abbrev cX4_readInto : ByteArray := prog_6_method_5_code
def yX4_readInto : MethodName := ⟨RX4, "readInto", "(LWeirWords$River;)Z"⟩
abbrev cX4_readLaw : ByteArray := prog_6_method_6_code
def yX4_readLaw : MethodName := ⟨RX4, "readLaw", "(LWeirWords$River;)Z"⟩
abbrev cX4_readCells : ByteArray := prog_6_method_7_code
def yX4_readCells : MethodName := ⟨RX4, "readCells", "(LWeirWords$River;)Z"⟩
abbrev cX4_readCell : ByteArray := prog_6_method_8_code
def yX4_readCell : MethodName := ⟨RX4, "readCell", "(LWeirWords$River;)Z"⟩
abbrev cX4_readWords : ByteArray := prog_6_method_9_code
def yX4_readWords : MethodName := ⟨RX4, "readWords", "(LWeirWords$River;)Z"⟩
abbrev cX4_readWord : ByteArray := prog_6_method_10_code
def yX4_readWord : MethodName := ⟨RX4, "readWord", "(LWeirWords$River;)Z"⟩
abbrev cX4_isAt : ByteArray := prog_6_method_11_code
def yX4_isAt : MethodName := ⟨RX4, "isAt", "(C)Z"⟩
abbrev cX4_passes : ByteArray := prog_6_method_12_code
def yX4_passes : MethodName := ⟨RX4, "passes", "(C)Z"⟩
abbrev cX4_faulty : ByteArray := prog_6_method_13_code
def yX4_faulty : MethodName := ⟨RX4, "faulty", "(I)Z"⟩
abbrev cX4_readNumber : ByteArray := prog_6_method_14_code
def yX4_readNumber : MethodName := ⟨RX4, "readNumber", "(II)I"⟩
abbrev cX4_figuresFrom : ByteArray := prog_6_method_15_code
def yX4_figuresFrom : MethodName := ⟨RX4, "figuresFrom", "(I)I"⟩
def RX5 : String := "WeirWords"
def TX5 : u_T := fun k => match k with
  | 0 => ("WeirWords", "rows", "LWeirWords$Rows;", true)
  | 1 => ("WeirWords", "tape", "LWeirWords$Tape;", true)
  | 2 => ("WeirWords", "asks", "LWeirWords$Asks;", true)
  | 3 => ("WeirWords", "now", "LWeirWords$River;", true)
  | 4 => ("WeirWords", "trial", "LWeirWords$River;", true)
  | 5 => ("WeirWords", "before", "[LWeirWords$River;", true)
  | 6 => ("WeirWords", "images", "[LWeirWords$River;", true)
  | 7 => ("WeirWords", "nextAct", "I", false)
  | 8 => ("WeirWords", "actsKept", "I", false)
  | _ => ("WeirWords", "lastFinding", "I", false)
def tyX5 : Nat → FieldType := fun k => match k with
  | 0 => .object "WeirWords$Rows"
  | 1 => .object "WeirWords$Tape"
  | 2 => .object "WeirWords$Asks"
  | 3 => .object "WeirWords$River"
  | 4 => .object "WeirWords$River"
  | 5 => .array (.object "WeirWords$River")
  | 6 => .array (.object "WeirWords$River")
  | 7 => .int
  | 8 => .int
  | _ => .int
abbrev wsX50 : List Cond := u_ws RX5 TX5 10
theorem nmX5 : ∀ a, a < 10 → ∀ b, b < 10 → a ≠ b → (TX5 a).2.1 ≠ (TX5 b).2.1 := by decide +kernel
theorem tyX5_ok : ∀ k, k < 10 → parseFieldDescriptor (TX5 k).2.2.1 = some (tyX5 k) := by decide +kernel
abbrev cX5_init : ByteArray := prog_1_method_1_code
def yX5_init : MethodName := ⟨RX5, "<init>", "()V"⟩
abbrev cX5_row : ByteArray := prog_1_method_2_code
def yX5_row : MethodName := ⟨RX5, "row", "(III)I"⟩
abbrev cX5_set : ByteArray := prog_1_method_3_code
def yX5_set : MethodName := ⟨RX5, "set", "(III)I"⟩
abbrev cX5_copy : ByteArray := prog_1_method_4_code
def yX5_copy : MethodName := ⟨RX5, "copy", "(IIIII)I"⟩
abbrev cX5_drop : ByteArray := prog_1_method_5_code
def yX5_drop : MethodName := ⟨RX5, "drop", "(I)I"⟩
abbrev cX5_feed : ByteArray := prog_1_method_6_code
def yX5_feed : MethodName := ⟨RX5, "feed", "(I)I"⟩
abbrev cX5_river : ByteArray := prog_1_method_7_code
def yX5_river : MethodName := ⟨RX5, "river", "()I"⟩
abbrev cX5_fault : ByteArray := prog_1_method_8_code
def yX5_fault : MethodName := ⟨RX5, "fault", "()I"⟩
abbrev cX5_minutes : ByteArray := prog_1_method_9_code
def yX5_minutes : MethodName := ⟨RX5, "minutes", "(I)I"⟩
abbrev cX5_say : ByteArray := prog_1_method_10_code
def yX5_say : MethodName := ⟨RX5, "say", "(III)I"⟩
abbrev cX5_speed : ByteArray := prog_1_method_11_code
def yX5_speed : MethodName := ⟨RX5, "speed", "(II)I"⟩
abbrev cX5_rain : ByteArray := prog_1_method_12_code
def yX5_rain : MethodName := ⟨RX5, "rain", "(I)I"⟩
abbrev cX5_undo : ByteArray := prog_1_method_13_code
def yX5_undo : MethodName := ⟨RX5, "undo", "()I"⟩
abbrev cX5_word : ByteArray := prog_1_method_14_code
def yX5_word : MethodName := ⟨RX5, "word", "(II)I"⟩
abbrev cX5_cell : ByteArray := prog_1_method_15_code
def yX5_cell : MethodName := ⟨RX5, "cell", "(II)I"⟩
abbrev cX5_ahead : ByteArray := prog_1_method_16_code
def yX5_ahead : MethodName := ⟨RX5, "ahead", "(III)I"⟩
abbrev cX5_quarrel : ByteArray := prog_1_method_17_code
def yX5_quarrel : MethodName := ⟨RX5, "quarrel", "(I)I"⟩
abbrev cX5_over : ByteArray := prog_1_method_18_code
def yX5_over : MethodName := ⟨RX5, "over", "(I)I"⟩
abbrev cX5_kept : ByteArray := prog_1_method_19_code
def yX5_kept : MethodName := ⟨RX5, "kept", "()I"⟩
abbrev cX5_calm : ByteArray := prog_1_method_20_code
def yX5_calm : MethodName := ⟨RX5, "calm", "(II)I"⟩
abbrev cX5_swift : ByteArray := prog_1_method_21_code
def yX5_swift : MethodName := ⟨RX5, "swift", "(II)I"⟩
abbrev cX5_stir : ByteArray := prog_1_method_22_code
def yX5_stir : MethodName := ⟨RX5, "stir", "(III)I"⟩
abbrev cX5_share : ByteArray := prog_1_method_23_code
def yX5_share : MethodName := ⟨RX5, "share", "(II)I"⟩
abbrev cX5_fits : ByteArray := prog_1_method_24_code
def yX5_fits : MethodName := ⟨RX5, "fits", "(IIIII)I"⟩
abbrev cX5_chance : ByteArray := prog_1_method_25_code
def yX5_chance : MethodName := ⟨RX5, "chance", "(IIII)I"⟩
abbrev cX5_drawn : ByteArray := prog_1_method_26_code
def yX5_drawn : MethodName := ⟨RX5, "drawn", "(III)I"⟩
abbrev cX5_image : ByteArray := prog_1_method_27_code
def yX5_image : MethodName := ⟨RX5, "image", "(I)I"⟩
abbrev cX5_restore : ByteArray := prog_1_method_28_code
def yX5_restore : MethodName := ⟨RX5, "restore", "(I)I"⟩
abbrev cX5_kind : ByteArray := prog_1_method_29_code
def yX5_kind : MethodName := ⟨RX5, "kind", "(I)I"⟩
abbrev cX5_as : ByteArray := prog_1_method_30_code
def yX5_as : MethodName := ⟨RX5, "as", "(II)I"⟩
abbrev cX5_ask : ByteArray := prog_1_method_31_code
def yX5_ask : MethodName := ⟨RX5, "ask", "(II)I"⟩
abbrev cX5_trace : ByteArray := prog_1_method_32_code
def yX5_trace : MethodName := ⟨RX5, "trace", "(I)I"⟩
abbrev cX5_count : ByteArray := prog_1_method_33_code
def yX5_count : MethodName := ⟨RX5, "count", "(I)I"⟩
abbrev cX5_status : ByteArray := prog_1_method_34_code
def yX5_status : MethodName := ⟨RX5, "status", "()I"⟩
abbrev cX5_isWithin : ByteArray := prog_1_method_35_code
def yX5_isWithin : MethodName := ⟨RX5, "isWithin", "(III)Z"⟩
abbrev cX5_finding : ByteArray := prog_1_method_36_code
def yX5_finding : MethodName := ⟨RX5, "finding", "(I)I"⟩
abbrev cX5_unfound : ByteArray := prog_1_method_37_code
def yX5_unfound : MethodName := ⟨RX5, "unfound", "(I)I"⟩
abbrev cX5_hasRiver : ByteArray := prog_1_method_38_code
def yX5_hasRiver : MethodName := ⟨RX5, "hasRiver", "()Z"⟩
abbrev cX5_cellOrNone : ByteArray := prog_1_method_39_code
def yX5_cellOrNone : MethodName := ⟨RX5, "cellOrNone", "(I)I"⟩
abbrev cX5_keepAct : ByteArray := prog_1_method_40_code
def yX5_keepAct : MethodName := ⟨RX5, "keepAct", "()V"⟩
abbrev cX5_forgetActs : ByteArray := prog_1_method_41_code
def yX5_forgetActs : MethodName := ⟨RX5, "forgetActs", "()V"⟩
abbrev cX5_fewestSwift : ByteArray := prog_1_method_42_code
def yX5_fewestSwift : MethodName := ⟨RX5, "fewestSwift", "(I)I"⟩
abbrev cX5_fittingSorts : ByteArray := prog_1_method_43_code
def yX5_fittingSorts : MethodName := ⟨RX5, "fittingSorts", "(I[III)I"⟩
abbrev cX5_fittingStarts : ByteArray := prog_1_method_44_code
def yX5_fittingStarts : MethodName := ⟨RX5, "fittingStarts", "(I[III)I"⟩
abbrev cX5_fittingRains : ByteArray := prog_1_method_45_code
def yX5_fittingRains : MethodName := ⟨RX5, "fittingRains", "(I[III)I"⟩
abbrev cX5_fittingSizes : ByteArray := prog_1_method_46_code
def yX5_fittingSizes : MethodName := ⟨RX5, "fittingSizes", "(I[III)I"⟩
abbrev cX5_leastFittingSize : ByteArray := prog_1_method_47_code
def yX5_leastFittingSize : MethodName := ⟨RX5, "leastFittingSize", "(I[III)I"⟩
abbrev cX5_fitsSize : ByteArray := prog_1_method_48_code
def yX5_fitsSize : MethodName := ⟨RX5, "fitsSize", "(II[III)Z"⟩
abbrev cX5_power : ByteArray := prog_1_method_49_code
def yX5_power : MethodName := ⟨RX5, "power", "(II)I"⟩
abbrev cX5_commonDivisor : ByteArray := prog_1_method_50_code
def yX5_commonDivisor : MethodName := ⟨RX5, "commonDivisor", "(II)I"⟩
def RX6 : String := "WeirWordsModel"
def TX6 : u_T := fun k => match k with
  | 0 => ("WeirWordsModel", "lane", "[I", true)
  | 1 => ("WeirWordsModel", "many", "[I", true)
  | 2 => ("WeirWordsModel", "items", "[I", true)
  | 3 => ("WeirWordsModel", "spare", "[I", true)
  | 4 => ("WeirWordsModel", "status", "I", false)
  | 5 => ("WeirWordsModel", "tape", "[I", true)
  | 6 => ("WeirWordsModel", "taped", "I", false)
  | 7 => ("WeirWordsModel", "faultKind", "I", false)
  | 8 => ("WeirWordsModel", "faultPlace", "I", false)
  | 9 => ("WeirWordsModel", "at", "I", false)
  | 10 => ("WeirWordsModel", "start", "I", false)
  | 11 => ("WeirWordsModel", "token", "I", false)
  | 12 => ("WeirWordsModel", "value", "I", false)
  | 13 => ("WeirWordsModel", "now", "[I", true)
  | 14 => ("WeirWordsModel", "draft", "[I", true)
  | 15 => ("WeirWordsModel", "tried", "[I", true)
  | 16 => ("WeirWordsModel", "past", "[I", true)
  | 17 => ("WeirWordsModel", "acts", "I", false)
  | 18 => ("WeirWordsModel", "images", "[I", true)
  | 19 => ("WeirWordsModel", "kept", "[Z", true)
  | 20 => ("WeirWordsModel", "trace", "[I", true)
  | _ => ("WeirWordsModel", "traced", "I", false)
def tyX6 : Nat → FieldType := fun k => match k with
  | 0 => .array .int
  | 1 => .array .int
  | 2 => .array .int
  | 3 => .array .int
  | 4 => .int
  | 5 => .array .int
  | 6 => .int
  | 7 => .int
  | 8 => .int
  | 9 => .int
  | 10 => .int
  | 11 => .int
  | 12 => .int
  | 13 => .array .int
  | 14 => .array .int
  | 15 => .array .int
  | 16 => .array .int
  | 17 => .int
  | 18 => .array .int
  | 19 => .array .boolean
  | 20 => .array .int
  | _ => .int
abbrev wsX60 : List Cond := u_ws RX6 TX6 22
theorem nmX6 : ∀ a, a < 22 → ∀ b, b < 22 → a ≠ b → (TX6 a).2.1 ≠ (TX6 b).2.1 := by decide +kernel
theorem tyX6_ok : ∀ k, k < 22 → parseFieldDescriptor (TX6 k).2.2.1 = some (tyX6 k) := by decide +kernel
abbrev cX6_init : ByteArray := prog_8_method_1_code
def yX6_init : MethodName := ⟨RX6, "<init>", "()V"⟩
abbrev cX6_in : ByteArray := prog_8_method_3_code
def yX6_in : MethodName := ⟨RX6, "in", "(III)Z"⟩
abbrev cX6_has : ByteArray := prog_8_method_4_code
def yX6_has : MethodName := ⟨RX6, "has", "(II)Z"⟩
abbrev cX6_ones : ByteArray := prog_8_method_5_code
def yX6_ones : MethodName := ⟨RX6, "ones", "(I)I"⟩
abbrev cX6_found : ByteArray := prog_8_method_6_code
def yX6_found : MethodName := ⟨RX6, "found", "(I)I"⟩
abbrev cX6_well : ByteArray := prog_8_method_7_code
def yX6_well : MethodName := ⟨RX6, "well", "(I)I"⟩
abbrev cX6_copies : ByteArray := prog_8_method_8_code
def yX6_copies : MethodName := ⟨RX6, "copies", "([II[II)V"⟩
abbrev cX6_isRow : ByteArray := prog_8_method_9_code
def yX6_isRow : MethodName := ⟨RX6, "isRow", "(I)Z"⟩
abbrev cX6_isMissing : ByteArray := prog_8_method_10_code
def yX6_isMissing : MethodName := ⟨RX6, "isMissing", "(I)Z"⟩
abbrev cX6_cut : ByteArray := prog_8_method_11_code
def yX6_cut : MethodName := ⟨RX6, "cut", "(II)I"⟩
abbrev cX6_row : ByteArray := prog_8_method_12_code
def yX6_row : MethodName := ⟨RX6, "row", "(III)I"⟩
abbrev cX6_set : ByteArray := prog_8_method_13_code
def yX6_set : MethodName := ⟨RX6, "set", "(III)I"⟩
abbrev cX6_isPart : ByteArray := prog_8_method_14_code
def yX6_isPart : MethodName := ⟨RX6, "isPart", "(III)Z"⟩
abbrev cX6_copy : ByteArray := prog_8_method_15_code
def yX6_copy : MethodName := ⟨RX6, "copy", "(IIIII)I"⟩
abbrev cX6_drop : ByteArray := prog_8_method_16_code
def yX6_drop : MethodName := ⟨RX6, "drop", "(I)I"⟩
abbrev cX6_feed : ByteArray := prog_8_method_17_code
def yX6_feed : MethodName := ⟨RX6, "feed", "(I)I"⟩
abbrev cX6_byteAt : ByteArray := prog_8_method_18_code
def yX6_byteAt : MethodName := ⟨RX6, "byteAt", "(I)I"⟩
abbrev cX6_advances : ByteArray := prog_8_method_19_code
def yX6_advances : MethodName := ⟨RX6, "advances", "()V"⟩
abbrev cX6_isWell : ByteArray := prog_8_method_20_code
def yX6_isWell : MethodName := ⟨RX6, "isWell", "()Z"⟩
abbrev cX6_takes : ByteArray := prog_8_method_21_code
def yX6_takes : MethodName := ⟨RX6, "takes", "(ZI)I"⟩
abbrev cX6_figure : ByteArray := prog_8_method_22_code
def yX6_figure : MethodName := ⟨RX6, "figure", "(II)I"⟩
abbrev cX6_kindOf : ByteArray := prog_8_method_23_code
def yX6_kindOf : MethodName := ⟨RX6, "kindOf", "(I)I"⟩
abbrev cX6_follows : ByteArray := prog_8_method_24_code
def yX6_follows : MethodName := ⟨RX6, "follows", "(II)I"⟩
abbrev cX6_readsCell : ByteArray := prog_8_method_25_code
def yX6_readsCell : MethodName := ⟨RX6, "readsCell", "()V"⟩
abbrev cX6_readsWord : ByteArray := prog_8_method_26_code
def yX6_readsWord : MethodName := ⟨RX6, "readsWord", "()V"⟩
abbrev cX6_must : ByteArray := prog_8_method_27_code
def yX6_must : MethodName := ⟨RX6, "must", "(Z)V"⟩
abbrev cX6_river : ByteArray := prog_8_method_28_code
def yX6_river : MethodName := ⟨RX6, "river", "()I"⟩
abbrev cX6_fault : ByteArray := prog_8_method_29_code
def yX6_fault : MethodName := ⟨RX6, "fault", "()I"⟩
abbrev cX6_isRiver : ByteArray := prog_8_method_30_code
def yX6_isRiver : MethodName := ⟨RX6, "isRiver", "()Z"⟩
abbrev cX6_isWord : ByteArray := prog_8_method_31_code
def yX6_isWord : MethodName := ⟨RX6, "isWord", "(I)Z"⟩
abbrev cX6_isCell : ByteArray := prog_8_method_32_code
def yX6_isCell : MethodName := ⟨RX6, "isCell", "(I)Z"⟩
abbrev cX6_isGone : ByteArray := prog_8_method_33_code
def yX6_isGone : MethodName := ⟨RX6, "isGone", "(I)Z"⟩
abbrev cX6_pace : ByteArray := prog_8_method_34_code
def yX6_pace : MethodName := ⟨RX6, "pace", "([II)I"⟩
abbrev cX6_upFrom : ByteArray := prog_8_method_35_code
def yX6_upFrom : MethodName := ⟨RX6, "upFrom", "([III)I"⟩
abbrev cX6_goesTo : ByteArray := prog_8_method_36_code
def yX6_goesTo : MethodName := ⟨RX6, "goesTo", "([II)I"⟩
abbrev cX6_goes : ByteArray := prog_8_method_37_code
def yX6_goes : MethodName := ⟨RX6, "goes", "([II)V"⟩
abbrev cX6_passes : ByteArray := prog_8_method_38_code
def yX6_passes : MethodName := ⟨RX6, "passes", "([I)V"⟩
abbrev cX6_goneOf : ByteArray := prog_8_method_39_code
def yX6_goneOf : MethodName := ⟨RX6, "goneOf", "([I)I"⟩
abbrev cX6_sizes : ByteArray := prog_8_method_40_code
def yX6_sizes : MethodName := ⟨RX6, "sizes", "([I)I"⟩
abbrev cX6_all : ByteArray := prog_8_method_41_code
def yX6_all : MethodName := ⟨RX6, "all", "([I)I"⟩
abbrev cX6_whereIs : ByteArray := prog_8_method_42_code
def yX6_whereIs : MethodName := ⟨RX6, "whereIs", "([II)I"⟩
abbrev cX6_says : ByteArray := prog_8_method_43_code
def yX6_says : MethodName := ⟨RX6, "says", "([IIII)V"⟩
abbrev cX6_notes : ByteArray := prog_8_method_44_code
def yX6_notes : MethodName := ⟨RX6, "notes", "()V"⟩
abbrev cX6_minutes : ByteArray := prog_8_method_45_code
def yX6_minutes : MethodName := ⟨RX6, "minutes", "(I)I"⟩
abbrev cX6_say : ByteArray := prog_8_method_46_code
def yX6_say : MethodName := ⟨RX6, "say", "(III)I"⟩
abbrev cX6_speed : ByteArray := prog_8_method_47_code
def yX6_speed : MethodName := ⟨RX6, "speed", "(II)I"⟩
abbrev cX6_rain : ByteArray := prog_8_method_48_code
def yX6_rain : MethodName := ⟨RX6, "rain", "(I)I"⟩
abbrev cX6_undo : ByteArray := prog_8_method_49_code
def yX6_undo : MethodName := ⟨RX6, "undo", "()I"⟩
abbrev cX6_word : ByteArray := prog_8_method_50_code
def yX6_word : MethodName := ⟨RX6, "word", "(II)I"⟩
abbrev cX6_wordsIn : ByteArray := prog_8_method_51_code
def yX6_wordsIn : MethodName := ⟨RX6, "wordsIn", "(I)I"⟩
abbrev cX6_cell : ByteArray := prog_8_method_52_code
def yX6_cell : MethodName := ⟨RX6, "cell", "(II)I"⟩
abbrev cX6_goesOn : ByteArray := prog_8_method_53_code
def yX6_goesOn : MethodName := ⟨RX6, "goesOn", "(I)V"⟩
abbrev cX6_ahead : ByteArray := prog_8_method_54_code
def yX6_ahead : MethodName := ⟨RX6, "ahead", "(III)I"⟩
abbrev cX6_quarrel : ByteArray := prog_8_method_55_code
def yX6_quarrel : MethodName := ⟨RX6, "quarrel", "(I)I"⟩
abbrev cX6_over : ByteArray := prog_8_method_56_code
def yX6_over : MethodName := ⟨RX6, "over", "(I)I"⟩
abbrev cX6_kept : ByteArray := prog_8_method_57_code
def yX6_kept : MethodName := ⟨RX6, "kept", "()I"⟩
abbrev cX6_isNear : ByteArray := prog_8_method_58_code
def yX6_isNear : MethodName := ⟨RX6, "isNear", "(I)Z"⟩
abbrev cX6_calm : ByteArray := prog_8_method_59_code
def yX6_calm : MethodName := ⟨RX6, "calm", "(II)I"⟩
abbrev cX6_swift : ByteArray := prog_8_method_60_code
def yX6_swift : MethodName := ⟨RX6, "swift", "(II)I"⟩
abbrev cX6_stir : ByteArray := prog_8_method_61_code
def yX6_stir : MethodName := ⟨RX6, "stir", "(III)I"⟩
abbrev cX6_share : ByteArray := prog_8_method_62_code
def yX6_share : MethodName := ⟨RX6, "share", "(II)I"⟩
abbrev cX6_isSeen : ByteArray := prog_8_method_63_code
def yX6_isSeen : MethodName := ⟨RX6, "isSeen", "(IIIII)Z"⟩
abbrev cX6_fits : ByteArray := prog_8_method_64_code
def yX6_fits : MethodName := ⟨RX6, "fits", "(IIIII)I"⟩
abbrev cX6_chance : ByteArray := prog_8_method_65_code
def yX6_chance : MethodName := ⟨RX6, "chance", "(IIII)I"⟩
abbrev cX6_drawn : ByteArray := prog_8_method_66_code
def yX6_drawn : MethodName := ⟨RX6, "drawn", "(III)I"⟩
abbrev cX6_image : ByteArray := prog_8_method_67_code
def yX6_image : MethodName := ⟨RX6, "image", "(I)I"⟩
abbrev cX6_restore : ByteArray := prog_8_method_68_code
def yX6_restore : MethodName := ⟨RX6, "restore", "(I)I"⟩
abbrev cX6_kindIn : ByteArray := prog_8_method_69_code
def yX6_kindIn : MethodName := ⟨RX6, "kindIn", "(I)I"⟩
abbrev cX6_kind : ByteArray := prog_8_method_70_code
def yX6_kind : MethodName := ⟨RX6, "kind", "(I)I"⟩
abbrev cX6_as : ByteArray := prog_8_method_71_code
def yX6_as : MethodName := ⟨RX6, "as", "(II)I"⟩
abbrev cX6_begins : ByteArray := prog_8_method_72_code
def yX6_begins : MethodName := ⟨RX6, "begins", "(I)V"⟩
abbrev cX6_stickMark : ByteArray := prog_8_method_73_code
def yX6_stickMark : MethodName := ⟨RX6, "stickMark", "(I)I"⟩
abbrev cX6_salmonSize : ByteArray := prog_8_method_74_code
def yX6_salmonSize : MethodName := ⟨RX6, "salmonSize", "(I)I"⟩
abbrev cX6_stickSize : ByteArray := prog_8_method_75_code
def yX6_stickSize : MethodName := ⟨RX6, "stickSize", "(I)I"⟩
abbrev cX6_salmonMark : ByteArray := prog_8_method_76_code
def yX6_salmonMark : MethodName := ⟨RX6, "salmonMark", "(I)I"⟩
abbrev cX6_ask : ByteArray := prog_8_method_77_code
def yX6_ask : MethodName := ⟨RX6, "ask", "(II)I"⟩
abbrev cX6_trace : ByteArray := prog_8_method_78_code
def yX6_trace : MethodName := ⟨RX6, "trace", "(I)I"⟩
abbrev cX6_count : ByteArray := prog_8_method_79_code
def yX6_count : MethodName := ⟨RX6, "count", "(I)I"⟩
abbrev cX6_status : ByteArray := prog_8_method_80_code
def yX6_status : MethodName := ⟨RX6, "status", "()I"⟩
def RJ6 : String := "java/lang/Integer"
def TJ6 : u_T := fun k => match k with
  | _ => ("", "", "", false)
def tyJ6 : Nat → FieldType := fun k => match k with
  | _ => .int
abbrev wsJ60 : List Cond := u_ws RJ6 TJ6 0
theorem nmJ6 : ∀ a, a < 0 → ∀ b, b < 0 → a ≠ b → (TJ6 a).2.1 ≠ (TJ6 b).2.1 := by decide +kernel
theorem tyJ6_ok : ∀ k, k < 0 → parseFieldDescriptor (TJ6 k).2.2.1 = some (tyJ6 k) := by decide +kernel
abbrev cJ6_bitCount_0f7a4 : ByteArray := prog_9_method_49_code
def yJ6_bitCount_0f7a4 : MethodName := ⟨RJ6, "bitCount", "(I)I"⟩
def RJ9 : String := "java/lang/Math"
def TJ9 : u_T := fun k => match k with
  | _ => ("", "", "", false)
def tyJ9 : Nat → FieldType := fun k => match k with
  | _ => .int
abbrev wsJ90 : List Cond := u_ws RJ9 TJ9 0
theorem nmJ9 : ∀ a, a < 0 → ∀ b, b < 0 → a ≠ b → (TJ9 a).2.1 ≠ (TJ9 b).2.1 := by decide +kernel
theorem tyJ9_ok : ∀ k, k < 0 → parseFieldDescriptor (TJ9 k).2.2.1 = some (tyJ9 k) := by decide +kernel
abbrev cJ9_min_7cf53 : ByteArray := prog_10_method_69_code
def yJ9_min_7cf53 : MethodName := ⟨RJ9, "min", "(II)I"⟩
def RJ10 : String := "java/lang/System"
def TJ10 : u_T := fun k => match k with
  | _ => ("", "", "", false)
def tyJ10 : Nat → FieldType := fun k => match k with
  | _ => .int
abbrev wsJ100 : List Cond := u_ws RJ10 TJ10 0
theorem nmJ10 : ∀ a, a < 0 → ∀ b, b < 0 → a ≠ b → (TJ10 a).2.1 ≠ (TJ10 b).2.1 := by decide +kernel
theorem tyJ10_ok : ∀ k, k < 0 → parseFieldDescriptor (TJ10 k).2.2.1 = some (tyJ10 k) := by decide +kernel
def RJ7 : String := "java/util/Arrays"
def TJ7 : u_T := fun k => match k with
  | _ => ("", "", "", false)
def tyJ7 : Nat → FieldType := fun k => match k with
  | _ => .int
abbrev wsJ70 : List Cond := u_ws RJ7 TJ7 0
theorem nmJ7 : ∀ a, a < 0 → ∀ b, b < 0 → a ≠ b → (TJ7 a).2.1 ≠ (TJ7 b).2.1 := by decide +kernel
theorem tyJ7_ok : ∀ k, k < 0 → parseFieldDescriptor (TJ7 k).2.2.1 = some (tyJ7 k) := by decide +kernel
abbrev cJ7_fill_53178 : ByteArray := prog_12_method_103_code
def yJ7_fill_53178 : MethodName := ⟨RJ7, "fill", "([II)V"⟩
def RL : String := "WeirWordsLaw"
abbrev cL_law : ByteArray := code
def yL_law : MethodName := ⟨RL, "law", "([I)Z"⟩
end
section
/-! THE WORLD OF THE CLAIM AS NUMBERS: objects by numbers (their places never move), all that changes is a number in a place; and a triple over the machine -/
abbrev classes : List vw_C := [(RX0, TX0, 6), (RX2, TX2, 8), (RX3, TX3, 3), (RX4, TX4, 4), (RX5, TX5, 10), (RX6, TX6, 22)]
abbrev jm_M : Type := Nat → Nat → Int32
/-- a method: its name, bytes, locals, return type, the frames and the words of locals that its calls want -/
abbrev jm_Y : Type := MethodName × ByteArray × Nat × Option FieldType × Nat × Nat
def jm_ob (i : Nat) : Option (Nat × Nat) :=
  if i < 32 then (match i with | 0 => some (4, 10) | 1 => some (2, 3) | 2 => some (3, 4) | 3 => some (0, 6) | 11 => some (5, 22) | _ => none)
  else if i < 144 ∧ i % 4 = 0 then some (1, 8) else none
def jm_ar (i : Nat) : Option (Nat × Nat) :=
  if i < 24 then (match i with | 4 => some (3, 8) | 5 => some (0, 8) | 6 => some (0, 8) | 7 => some (0, 110) | 8 => some (0, 16) | 9 => some (2, 24) | 10 => some (2, 2) | 12 => some (0, 8) | 13 => some (0, 8) | 14 => some (0, 320) | 15 => some (0, 40) | 16 => some (0, 110) | 17 => some (0, 45) | 18 => some (0, 45) | 19 => some (0, 45) | 20 => some (0, 1080) | 21 => some (0, 90) | 22 => some (1, 2) | 23 => some (0, 16) | _ => none)
  else if i < 32 then some (0, 40)
  else if i < 144 then (if i % 4 = 1 then some (0, 12) else if i % 4 = 0 then none else some (0, 7)) else none
def jm_rf (i k : Nat) : Option Nat :=
  if i < 32 then (match i with
    | 0 => (match k with | 0 => some 1 | 1 => some 2 | 2 => some 3 | 3 => some 32 | 4 => some 36 | 5 => some 9 | 6 => some 10 | _ => none)
    | 1 => (match k with | 0 => some 4 | 1 => some 5 | 2 => some 6 | _ => none)
    | 2 => (match k with | 0 => some 7 | _ => none)
    | 3 => (match k with | 0 => some 8 | _ => none)
    | 4 => some (24 + k)
    | 9 => some (40 + 4 * k)
    | 10 => some (136 + 4 * k)
    | 11 => (match k with | 0 => some 12 | 1 => some 13 | 2 => some 14 | 3 => some 15 | 5 => some 16 | 13 => some 17 | 14 => some 18 | 15 => some 19 | 16 => some 20 | 18 => some 21 | 19 => some 22 | 20 => some 23 | _ => none)
    | _ => none)
  else (match k with | 5 => some (i + 1) | 6 => some (i + 2) | 7 => some (i + 3) | _ => none)
/-- another content for the object i -/
def jm_sf (M : jm_M) (i : Nat) (f : Nat → Int32) : jm_M := fun j => if j = i then f else M j
theorem jm_sf_s (M : jm_M) (i : Nat) (f : Nat → Int32) : jm_sf M i f i = f := by simp [jm_sf]
theorem jm_sf_n (M : jm_M) {i j : Nat} (f : Nat → Int32) (h : j ≠ i) : jm_sf M i f j = M j := by simp [jm_sf, h]
def jm_fs (ad : Nat → Nat) (M : jm_M) (i n : Nat) : List Value := (List.range n).map (fun k => match jm_rf i k with | some j => .ref (ad j) | none => .int (M i k))
def jm_e (aC ad : Nat → Nat) (M : jm_M) (i : Nat) : va_E :=
  match jm_ob i with
  | some (c, n) => .inr (c, jm_fs ad M i n)
  | none => match jm_ar i with
    | some (t, n) => if t < 2 then .inl (aC t, n, .inl (M i)) else .inl (aC t, n, .inr (.inr (.inr (.inr (fun k => (jm_rf i k).map ad)))))
    | none => .inr (0, [])
def jm_ws (aC ad : Nat → Nat) (M : jm_M) : va_W := (List.range 144).map (fun i => (ad i, jm_e aC ad M i))
abbrev jm_tys (aC : Nat → Nat) : List (ClassId × FieldType) := [(aC 0, .int), (aC 1, .boolean), (aC 2, .object RX2), (aC 3, .array .int)]
theorem jm_at {aC ad : Nat → Nat} {M : jm_M} {i : Nat} (h : i < 144) : (jm_ws aC ad M)[i]? = some (ad i, jm_e aC ad M i) := by
  unfold jm_ws
  rw [List.getElem?_map, List.getElem?_range h]
  rfl
theorem jm_ob_lt {i : Nat} {q : Nat × Nat} (h : jm_ob i = some q) : i < 144 := by
  unfold jm_ob at h
  by_cases h1 : i < 32
  · omega
  · rw [if_neg h1] at h
    by_cases h2 : i < 144 ∧ i % 4 = 0
    · exact h2.1
    · rw [if_neg h2] at h; cases h
theorem jm_ar_lt {i : Nat} {q : Nat × Nat} (h : jm_ar i = some q) : i < 144 := by
  unfold jm_ar at h
  by_cases h1 : i < 24
  · omega
  · by_cases h2 : i < 32
    · omega
    · rw [if_neg h1, if_neg h2] at h
      by_cases h3 : i < 144
      · exact h3
      · rw [if_neg h3] at h; cases h
theorem jm_ob_ar {i : Nat} {q : Nat × Nat} (h : jm_ar i = some q) : jm_ob i = none := by
  have hl := jm_ar_lt h
  have key : ∀ i, i < 144 → (jm_ar i).isSome = true → jm_ob i = none := by decide +kernel
  exact key i hl (by rw [h]; rfl)
theorem jm_e_ob {aC ad : Nat → Nat} {M : jm_M} {i c n : Nat} (h : jm_ob i = some (c, n)) : jm_e aC ad M i = .inr (c, jm_fs ad M i n) := by
  unfold jm_e; rw [h]
theorem jm_e_ar {aC ad : Nat → Nat} {M : jm_M} {i t n : Nat} (h : jm_ar i = some (t, n)) (ht : t < 2) : jm_e aC ad M i = .inl (aC t, n, .inl (M i)) := by
  unfold jm_e; rw [jm_ob_ar h, h]; simp [ht]
theorem jm_e_aq {aC ad : Nat → Nat} {M : jm_M} {i t n : Nat} (h : jm_ar i = some (t, n)) (ht : ¬ t < 2) : jm_e aC ad M i = .inl (aC t, n, .inr (.inr (.inr (.inr (fun k => (jm_rf i k).map ad))))) := by
  unfold jm_e; rw [jm_ob_ar h, h]; simp [ht]
theorem jm_e_ne {aC ad : Nat → Nat} {M : jm_M} {i j : Nat} {f : Nat → Int32} (h : j ≠ i) : jm_e aC ad (jm_sf M i f) j = jm_e aC ad M j := by
  unfold jm_e jm_fs
  rw [jm_sf_n M f h]
theorem jm_set {aC ad : Nat → Nat} {M : jm_M} {i : Nat} {f : Nat → Int32} {x : va_E} (hi : i < 144) (hx : x = jm_e aC ad (jm_sf M i f) i) : (jm_ws aC ad M).set i (ad i, x) = jm_ws aC ad (jm_sf M i f) := by
  apply List.ext_getElem?
  intro j
  by_cases hj : j < 144
  · rw [jm_at hj]
    by_cases hji : j = i
    · subst hji
      rw [List.getElem?_set_self (by simp [jm_ws]; exact hi), hx]
    · rw [List.getElem?_set_ne (fun q => hji q.symm), jm_at hj, jm_e_ne hji]
  · rw [List.getElem?_eq_none (by simp [jm_ws]; omega), List.getElem?_eq_none (by simp [jm_ws]; omega)]
theorem jm_fs_len (ad : Nat → Nat) (M : jm_M) (i n : Nat) : (jm_fs ad M i n).length = n := by simp [jm_fs]
theorem jm_fs_at {ad : Nat → Nat} {M : jm_M} {i n k : Nat} (hk : k < n) : (jm_fs ad M i n)[k]? = some (match jm_rf i k with | some j => .ref (ad j) | none => .int (M i k)) := by
  unfold jm_fs
  rw [List.getElem?_map, List.getElem?_range hk]
  rfl
theorem jm_fs_set {ad : Nat → Nat} {M : jm_M} {i n k : Nat} {v : Int32} (hk : k < n) (hr : jm_rf i k = none) : (jm_fs ad M i n).set k (.int v) = jm_fs ad (jm_sf M i (upd (M i) k v)) i n := by
  apply List.ext_getElem?
  intro j
  by_cases hj : j < n
  · rw [jm_fs_at hj]
    by_cases hjk : j = k
    · subst hjk
      rw [List.getElem?_set_self (by rw [jm_fs_len]; exact hk), hr, jm_sf_s]
      simp [upd]
    · rw [List.getElem?_set_ne (fun q => hjk q.symm), jm_fs_at hj, jm_sf_s]
      have e : upd (M i) k v j = M i j := by simp [upd, hjk]
      rw [e]
  · rw [List.getElem?_eq_none (by simp [jm_fs_len]; omega), List.getElem?_eq_none (by rw [jm_fs_len]; omega)]
/-- the words of the tables that stay -/
def jm_tb : List Cond := lw_tbl.filter goodWord
theorem jm_tb_in {w : Cond} (h : w ∈ lw_tbl) (g : goodWord w = true) : w ∈ jm_tb := List.mem_filter.mpr ⟨h, g⟩
theorem jm_tb_of {w : Cond} (h : w ∈ jm_tb) : w ∈ lw_tbl := (List.mem_filter.mp h).1
theorem jm_tb_good {w : Cond} (h : w ∈ jm_tb) : (w.onTables && w.keeps) = true ∨ ∃ ty, w = .arrayClass ty := good_of_word (List.mem_filter.mp h).2
def jm_v (ad : Nat → Nat) : Value → Value
  | .ref i => .ref (ad i)
  | v => v
theorem jm_v_cat (ad : Nat → Nat) (v : Value) : (jm_v ad v).category = v.category := by cases v <;> rfl
/-- the locals: each either not known, or a value -/
abbrev jm_Ls : Type := List (Option Value)
def jm_L (ad : Nat → Nat) (ls : jm_Ls) (lsA : Array Slot) : Prop := lsA.size = ls.length ∧ lv_wf lsA ∧ ∀ (i : Nat) (v : Value), ls[i]? = some (some v) → lsA[i]? = some (.val (jm_v ad v))
def jm_no (ls : jm_Ls) (i : Nat) : Bool := match i with
  | 0 => true
  | k + 1 => match ls[k]? with
    | some (some v) => v.category == 1
    | _ => true
def jm_st : jm_Ls → Nat → Option Value → jm_Ls
  | [], _, _ => []
  | _ :: t, 0, v => v :: t
  | a :: t, k + 1, v => a :: jm_st t k v
theorem jm_st_set (ls : jm_Ls) (i : Nat) (v : Option Value) : jm_st ls i v = ls.set i v := by
  induction ls generalizing i with
  | nil => rfl
  | cons a t ih => cases i with
    | zero => rfl
    | succ k => show a :: jm_st t k v = _; rw [ih]; rfl
/-- what the kit's rows of stores want: the list of what is known -/
def jm_pr (ad : Nat → Nat) (ls : jm_Ls) : List (Nat × Value) := (List.range ls.length).filterMap (fun i => match ls[i]? with | some (some v) => some (i, jm_v ad v) | _ => none)
theorem jm_pr_mem {ad : Nat → Nat} {ls : jm_Ls} {i : Nat} {v : Value} (h : ls[i]? = some (some v)) : (i, jm_v ad v) ∈ jm_pr ad ls := by
  refine List.mem_filterMap.mpr ⟨i, List.mem_range.mpr (List.getElem?_eq_some_iff.mp h).1, ?_⟩
  rw [h]
theorem jm_L_has {ad : Nat → Nat} {ls : jm_Ls} {lsA : Array Slot} (h : jm_L ad ls lsA) : lv_has lsA ls.length (jm_pr ad ls) := by
  refine ⟨h.1, h.2.1, fun q hq => ?_⟩
  obtain ⟨i, -, hi⟩ := List.mem_filterMap.mp hq
  cases hx : ls[i]? with
  | none => rw [hx] at hi; cases hi
  | some o => cases o with
    | none => rw [hx] at hi; cases hi
    | some v =>
      rw [hx] at hi
      cases hi
      exact h.2.2 i v hx
theorem jm_L_st {ad : Nat → Nat} {ls : jm_Ls} {lsA' : Array Slot} {i : Nat} {v : Value} (hi : i < ls.length) (hno : jm_no ls i = true)
    (h : lv_has lsA' ls.length ((i, jm_v ad v) :: (jm_pr ad ls).filter (fun q => !(q.1 == i) && !(q.1 + 1 == i && q.2.category == 2)))) : jm_L ad (jm_st ls i (some v)) lsA' := by
  refine ⟨by rw [h.1, jm_st_set, List.length_set], h.2.1, fun j w hj => ?_⟩
  rw [jm_st_set] at hj
  by_cases hji : j = i
  · subst hji
    rw [List.getElem?_set_self hi] at hj
    cases hj
    exact h.2.2 _ List.mem_cons_self
  · rw [List.getElem?_set_ne (fun q => hji q.symm)] at hj
    refine h.2.2 (j, jm_v ad w) (List.mem_cons_of_mem _ (List.mem_filter.mpr ⟨jm_pr_mem hj, ?_⟩))
    by_cases hc : j + 1 = i
    · subst hc
      have hw : w.category = 1 := by
        simp only [jm_no, hj] at hno
        simpa using hno
      simp [hji, jm_v_cat, hw]
    · simp [hji, hc]
theorem jm_L_st2 {ad : Nat → Nat} {ls : jm_Ls} {lsA' : Array Slot} {i : Nat} {v : Value} (hi : i + 1 < ls.length) (hno : jm_no ls i = true)
    (h : lv_has lsA' ls.length ((i, jm_v ad v) :: (jm_pr ad ls).filter (fun q => !(q.1 == i) && (!(q.1 == i + 1) && !(q.1 + 1 == i && q.2.category == 2))))) : jm_L ad (jm_st (jm_st ls (i + 1) none) i (some v)) lsA' := by
  refine ⟨by rw [h.1, jm_st_set, jm_st_set, List.length_set, List.length_set], h.2.1, fun j w hj => ?_⟩
  rw [jm_st_set, jm_st_set] at hj
  by_cases hji : j = i
  · subst hji
    rw [List.getElem?_set_self (by rw [List.length_set]; omega)] at hj
    cases hj
    exact h.2.2 _ List.mem_cons_self
  · rw [List.getElem?_set_ne (fun q => hji q.symm)] at hj
    by_cases hj2 : j = i + 1
    · subst hj2
      rw [List.getElem?_set_self (by omega)] at hj
      cases hj
    · rw [List.getElem?_set_ne (fun q => hj2 q.symm)] at hj
      refine h.2.2 (j, jm_v ad w) (List.mem_cons_of_mem _ (List.mem_filter.mpr ⟨jm_pr_mem hj, ?_⟩))
      by_cases hc : j + 1 = i
      · subst hc
        have hw : w.category = 1 := by
          simp only [jm_no, hj] at hno
          simpa using hno
        simp [jm_v_cat, hw]
        try omega
      · simp [hji, hj2, hc]
/-- a method's locals at its entry -/
def jm_en (n : Nat) (vs : List Value) : jm_Ls := vs.map some ++ List.replicate (n - vs.length) none
theorem jm_lg (vs : List Value) (h : ∀ v ∈ vs, v.category = 1) : lg_sl vs = vs.map Slot.val := by
  induction vs with
  | nil => rfl
  | cons v t ih =>
    have hv := h v List.mem_cons_self
    have e : lg_sl (v :: t) = (if v.category = 2 then [.val v, .second] else [.val v]) ++ lg_sl t := rfl
    rw [e, ih (fun w hw => h w (List.mem_cons_of_mem _ hw)), hv]
    rfl
theorem jm_lva (vs : List Value) (h : ∀ v ∈ vs, v.category = 1) : ∀ (k i : Nat) (v : Value), vs[i]? = some v → (k + i, v) ∈ lv_args k vs := by
  induction vs with
  | nil => intro k i v hv; simp at hv
  | cons w t ih =>
    intro k i v hv
    have hw := h w List.mem_cons_self
    cases i with
    | zero =>
      rw [List.getElem?_cons_zero] at hv
      cases hv
      exact List.mem_cons_self
    | succ i =>
      rw [List.getElem?_cons_succ] at hv
      have := ih (fun x hx => h x (List.mem_cons_of_mem _ hx)) (k + 1) i v hv
      simp only [lv_args, hw]
      rw [show k + (i + 1) = k + 1 + i by omega]
      exact List.mem_cons_of_mem _ this
theorem jm_entry (ad : Nat → Nat) (vs : List Value) {n : Nat} (hn : vs.length ≤ n) (h : ∀ v ∈ vs, v.category = 1) : jm_L ad (jm_en n vs) ((lg_sl (vs.map (jm_v ad)) ++ List.replicate (n - (lg_sl (vs.map (jm_v ad))).length) Slot.unset).toArray) := by
  have h' : ∀ v ∈ vs.map (jm_v ad), v.category = 1 := by
    intro v hv
    obtain ⟨w, hw, rfl⟩ := List.mem_map.mp hv
    rw [jm_v_cat]; exact h w hw
  have hl : (lg_sl (vs.map (jm_v ad))).length = vs.length := by rw [jm_lg _ h']; simp
  have hE := lv_entry (vs.map (jm_v ad)) (n := n) (by rw [hl]; exact hn)
  refine ⟨by rw [hE.1]; simp [jm_en]; omega, hE.2.1, fun i v hi => ?_⟩
  refine hE.2.2 (i, jm_v ad v) ?_
  have hv : vs[i]? = some v := by
    unfold jm_en at hi
    by_cases hlt : i < vs.length
    · rw [List.getElem?_append_left (by simpa using hlt), List.getElem?_map] at hi
      cases hx : vs[i]? with
      | none => rw [hx] at hi; cases hi
      | some w => rw [hx] at hi; cases hi; rfl
    · rw [List.getElem?_append_right (by simpa using hlt)] at hi
      have := List.eq_of_mem_replicate (List.mem_of_getElem? hi)
      cases this
  have := jm_lva (vs.map (jm_v ad)) h' 0 i (jm_v ad v) (by rw [List.getElem?_map, hv]; rfl)
  simpa using this
/-- the table of kinds above -/
def jm_ab : Nat → Value := fun k => .int (([0, 0, 1, 1, 0, 4] : List Int32).getD k 0)
abbrev jm_S : Type := Option (Nat × (Nat → Int32))
def jm_ctx (sc : jm_S) (Y : jm_Y) (p : Program) (R : Room) (s : State) (m : MethodId) (args : Array Value) (c : Code) (cells slots : Nat) (A : Nat → Prop) (D : va_G) (aC ad : Nat → Nat) : Prop :=
  p.tables.exec = Jvm.exec ∧ c.code = Y.2.1 ∧ c.maxLocals = Y.2.2.1 ∧ s.vm.findClass Y.1.cls = some m.cls ∧ (∀ w ∈ jm_tb, w.before args s = true) ∧ va_K D classes (jm_tys aC) s ∧ (∀ i j, i < 144 → j < 144 → ad i = ad j → i = j) ∧ (∀ i, i < 144 → A (ad i)) ∧
  va_Z "WeirWords$Kinds" "ABOVE" "[I" (.ref (ad 1001)) A s s.heap ∧ va_T .int (ad 1001) 6 jm_ab A s s.heap ∧ (Y.2.2.2.2.1 ≤ R.frames ∧ Y.2.2.2.2.2 ≤ R.locals) ∧ (cells ≤ R.cells ∧ slots ≤ R.slots) ∧
  (match sc with | none => True | some q => va_X (ad 1000) q.1 q.2 s s.heap ∧ ad 1000 < s.heap.size ∧ ¬ A (ad 1000))
theorem jm_D {A : Nat → Prop} {aC ad : Nat → Nat} {M : jm_M} (h1 : ∀ i j, i < 144 → j < 144 → ad i = ad j → i = j) (h2 : ∀ i, i < 144 → A (ad i)) : va_D A (jm_ws aC ad M) := by
  have key : ∀ (k : Nat) (q : Nat × va_E), (jm_ws aC ad M)[k]? = some q → k < 144 ∧ q.1 = ad k := by
    intro k q hk
    have hl : k < 144 := by
      have := (List.getElem?_eq_some_iff.mp hk).1
      simpa [jm_ws] using this
    rw [jm_at hl] at hk
    cases hk
    exact ⟨hl, rfl⟩
  refine ⟨fun i j x y hi hj hxy => ?_, fun k q hk => ?_⟩
  · obtain ⟨a1, a2⟩ := key i x hi
    obtain ⟨b1, b2⟩ := key j y hj
    exact h1 i j a1 b1 (by rw [← a2, ← b2]; exact hxy)
  · obtain ⟨a1, a2⟩ := key k q hk
    rw [a2]
    exact h2 k a1
/-- THE TRIPLE: from pc of the method Y, with these locals and this stack, in any world that holds M, the machine comes to the method's end with an answer and a world of which Q holds -/
def jm_J (sc : jm_S) (Y : jm_Y) (pc : Nat) (ls : jm_Ls) (st : List Value) (M : jm_M) (Q : Option Value → jm_M → Prop) : Prop :=
  ∀ (p : Program) (l : Launch) (e : Env) (R : Room) (s : State) (m : MethodId) (args : Array Value) (below : List Frame) (meth : Method) (c : Code) (cells slots : Nat) (Z : State → Prop) (A : Nat → Prop) (D : va_G) (aC ad : Nat → Nat),
    jm_ctx sc Y p R s m args c cells slots A D aC ad →
    (∀ (v : Int32) (M1 : jm_M) (H1 : Heap) (locs1 : List Loc) (pc1 : Nat) (ls1 : Array Slot) (ty : FieldType), Q (some (.int v)) M1 → va_P D classes (jm_ws aC ad M1) H1 → va_S A s.heap H1 locs1 → Y.2.2.2.1 = some ty → narrow ty (.int v) = .int v → decode Y.2.1 pc1 = .ok (.ireturn, 1) → W p l e R s m args below meth c H1 locs1 cells slots Z (F0 m pc1 ls1 [.int v])) →
    (∀ (M1 : jm_M) (H1 : Heap) (locs1 : List Loc) (pc1 : Nat) (ls1 : Array Slot), Q none M1 → va_P D classes (jm_ws aC ad M1) H1 → va_S A s.heap H1 locs1 → Y.2.2.2.1 = none → decode Y.2.1 pc1 = .ok (.return_, 1) → W p l e R s m args below meth c H1 locs1 cells slots Z (F0 m pc1 ls1 [])) →
    ∀ (H : Heap) (locs : List Loc) (lsA : Array Slot), va_P D classes (jm_ws aC ad M) H → va_S A s.heap H locs → jm_L ad ls lsA → lsA.size = Y.2.2.1 → W p l e R s m args below meth c H locs cells slots Z (F0 m pc lsA (st.map (jm_v ad)))
end
section
/-! one rule an instruction -/
theorem jm_iconst {sc : jm_S} {Y : jm_Y} {pc : Nat} {ls : jm_Ls} {st : List Value} {M : jm_M} {Q : Option Value → jm_M → Prop} {n : Int} {v : Int32} (d : decode Y.2.1 pc = .ok (.iconst n, 1)) (hv : Int32.ofInt n = v) (k : jm_J sc Y (pc + 1) ls (.int v :: st) M Q) : jm_J sc Y pc ls (st) M Q := by
  intro p l e R s m args below meth c cells slots Z A D aC ad C hI hV H locs lsA hP hS hL hz
  exact lv_iconst C.1 C.2.1 d hv (k p l e R s m args below meth c cells slots Z A D aC ad C hI hV H locs lsA hP hS hL hz)
theorem jm_bipush {sc : jm_S} {Y : jm_Y} {pc : Nat} {ls : jm_Ls} {st : List Value} {M : jm_M} {Q : Option Value → jm_M → Prop} {n : Int} {v : Int32} (d : decode Y.2.1 pc = .ok (.bipush n, 2)) (hv : (Int8.ofInt n).toInt32 = v) (k : jm_J sc Y (pc + 2) ls (.int v :: st) M Q) : jm_J sc Y pc ls (st) M Q := by
  intro p l e R s m args below meth c cells slots Z A D aC ad C hI hV H locs lsA hP hS hL hz
  exact lv_bipush C.1 C.2.1 d hv (k p l e R s m args below meth c cells slots Z A D aC ad C hI hV H locs lsA hP hS hL hz)
theorem jm_sipush {sc : jm_S} {Y : jm_Y} {pc : Nat} {ls : jm_Ls} {st : List Value} {M : jm_M} {Q : Option Value → jm_M → Prop} {n : Int} {v : Int32} (d : decode Y.2.1 pc = .ok (.sipush n, 3)) (hv : (Int16.ofInt n).toInt32 = v) (k : jm_J sc Y (pc + 3) ls (.int v :: st) M Q) : jm_J sc Y pc ls (st) M Q := by
  intro p l e R s m args below meth c cells slots Z A D aC ad C hI hV H locs lsA hP hS hL hz
  exact lv_sipush C.1 C.2.1 d hv (k p l e R s m args below meth c cells slots Z A D aC ad C hI hV H locs lsA hP hS hL hz)
theorem jm_ldc {sc : jm_S} {Y : jm_Y} {pc : Nat} {ls : jm_Ls} {st : List Value} {M : jm_M} {Q : Option Value → jm_M → Prop} {idx : Nat} {v : Int32} (d : decode Y.2.1 pc = .ok (.ldc idx, 2)) (hw : Cond.constant Y.1.cls idx v ∈ jm_tb) (k : jm_J sc Y (pc + 2) ls (.int v :: st) M Q) : jm_J sc Y pc ls (st) M Q := by
  intro p l e R s m args below meth c cells slots Z A D aC ad C hI hV H locs lsA hP hS hL hz
  exact lv_ldc C.1 C.2.1 C.2.2.2.1 (C.2.2.2.2.1 _ hw) d (k p l e R s m args below meth c cells slots Z A D aC ad C hI hV H locs lsA hP hS hL hz)
theorem jm_ldcw {sc : jm_S} {Y : jm_Y} {pc : Nat} {ls : jm_Ls} {st : List Value} {M : jm_M} {Q : Option Value → jm_M → Prop} {idx : Nat} {v : Int32} (d : decode Y.2.1 pc = .ok (.ldc_w idx, 3)) (hw : Cond.constant Y.1.cls idx v ∈ jm_tb) (k : jm_J sc Y (pc + 3) ls (.int v :: st) M Q) : jm_J sc Y pc ls (st) M Q := by
  intro p l e R s m args below meth c cells slots Z A D aC ad C hI hV H locs lsA hP hS hL hz
  exact lv_ldcw C.1 C.2.1 C.2.2.2.1 (C.2.2.2.2.1 _ hw) d (k p l e R s m args below meth c cells slots Z A D aC ad C hI hV H locs lsA hP hS hL hz)
theorem jm_ldc2 {sc : jm_S} {Y : jm_Y} {pc : Nat} {ls : jm_Ls} {st : List Value} {M : jm_M} {Q : Option Value → jm_M → Prop} {idx : Nat} {v : Int64} (d : decode Y.2.1 pc = .ok (.ldc2_w idx, 3)) (hw : Cond.constantLong Y.1.cls idx v ∈ jm_tb) (k : jm_J sc Y (pc + 3) ls (.long v :: st) M Q) : jm_J sc Y pc ls (st) M Q := by
  intro p l e R s m args below meth c cells slots Z A D aC ad C hI hV H locs lsA hP hS hL hz
  exact lv_ldc2 C.1 C.2.1 C.2.2.2.1 (C.2.2.2.2.1 _ hw) d (k p l e R s m args below meth c cells slots Z A D aC ad C hI hV H locs lsA hP hS hL hz)
theorem jm_iload_n {sc : jm_S} {Y : jm_Y} {pc : Nat} {ls : jm_Ls} {st : List Value} {M : jm_M} {Q : Option Value → jm_M → Prop} {k0 : Fin 4} {x : Int32} (d : decode Y.2.1 pc = .ok (.iload_n k0, 1)) (hl : ls[(k0 : Nat)]? = some (some (.int x))) (k : jm_J sc Y (pc + 1) ls (.int x :: st) M Q) : jm_J sc Y pc ls (st) M Q := by
  intro p l e R s m args below meth c cells slots Z A D aC ad C hI hV H locs lsA hP hS hL hz
  exact lv_iload_n C.1 C.2.1 d rfl (hL.2.2 _ _ hl) (k p l e R s m args below meth c cells slots Z A D aC ad C hI hV H locs lsA hP hS hL hz)
theorem jm_iload {sc : jm_S} {Y : jm_Y} {pc : Nat} {ls : jm_Ls} {st : List Value} {M : jm_M} {Q : Option Value → jm_M → Prop} {i : Nat} {x : Int32} (d : decode Y.2.1 pc = .ok (.iload i, 2)) (hl : ls[i]? = some (some (.int x))) (k : jm_J sc Y (pc + 2) ls (.int x :: st) M Q) : jm_J sc Y pc ls (st) M Q := by
  intro p l e R s m args below meth c cells slots Z A D aC ad C hI hV H locs lsA hP hS hL hz
  exact lv_iload C.1 C.2.1 d (hL.2.2 _ _ hl) (k p l e R s m args below meth c cells slots Z A D aC ad C hI hV H locs lsA hP hS hL hz)
theorem jm_lload_n {sc : jm_S} {Y : jm_Y} {pc : Nat} {ls : jm_Ls} {st : List Value} {M : jm_M} {Q : Option Value → jm_M → Prop} {k0 : Fin 4} {x : Int64} (d : decode Y.2.1 pc = .ok (.lload_n k0, 1)) (hl : ls[(k0 : Nat)]? = some (some (.long x))) (k : jm_J sc Y (pc + 1) ls (.long x :: st) M Q) : jm_J sc Y pc ls (st) M Q := by
  intro p l e R s m args below meth c cells slots Z A D aC ad C hI hV H locs lsA hP hS hL hz
  exact lv_lload_n C.1 C.2.1 d rfl (hL.2.2 _ _ hl) (k p l e R s m args below meth c cells slots Z A D aC ad C hI hV H locs lsA hP hS hL hz)
theorem jm_lload {sc : jm_S} {Y : jm_Y} {pc : Nat} {ls : jm_Ls} {st : List Value} {M : jm_M} {Q : Option Value → jm_M → Prop} {i : Nat} {x : Int64} (d : decode Y.2.1 pc = .ok (.lload i, 2)) (hl : ls[i]? = some (some (.long x))) (k : jm_J sc Y (pc + 2) ls (.long x :: st) M Q) : jm_J sc Y pc ls (st) M Q := by
  intro p l e R s m args below meth c cells slots Z A D aC ad C hI hV H locs lsA hP hS hL hz
  exact lv_lload C.1 C.2.1 d (hL.2.2 _ _ hl) (k p l e R s m args below meth c cells slots Z A D aC ad C hI hV H locs lsA hP hS hL hz)
theorem jm_aload_n {sc : jm_S} {Y : jm_Y} {pc : Nat} {ls : jm_Ls} {st : List Value} {M : jm_M} {Q : Option Value → jm_M → Prop} {k0 : Fin 4} {x : Nat} (d : decode Y.2.1 pc = .ok (.aload_n k0, 1)) (hl : ls[(k0 : Nat)]? = some (some (.ref x))) (k : jm_J sc Y (pc + 1) ls (.ref x :: st) M Q) : jm_J sc Y pc ls (st) M Q := by
  intro p l e R s m args below meth c cells slots Z A D aC ad C hI hV H locs lsA hP hS hL hz
  exact lv_aload_n C.1 C.2.1 d rfl (hL.2.2 _ _ hl) (k p l e R s m args below meth c cells slots Z A D aC ad C hI hV H locs lsA hP hS hL hz)
theorem jm_aload {sc : jm_S} {Y : jm_Y} {pc : Nat} {ls : jm_Ls} {st : List Value} {M : jm_M} {Q : Option Value → jm_M → Prop} {i : Nat} {x : Nat} (d : decode Y.2.1 pc = .ok (.aload i, 2)) (hl : ls[i]? = some (some (.ref x))) (k : jm_J sc Y (pc + 2) ls (.ref x :: st) M Q) : jm_J sc Y pc ls (st) M Q := by
  intro p l e R s m args below meth c cells slots Z A D aC ad C hI hV H locs lsA hP hS hL hz
  exact lv_aload C.1 C.2.1 d (hL.2.2 _ _ hl) (k p l e R s m args below meth c cells slots Z A D aC ad C hI hV H locs lsA hP hS hL hz)
theorem jm_istore_n {sc : jm_S} {Y : jm_Y} {pc : Nat} {ls : jm_Ls} {st : List Value} {M : jm_M} {Q : Option Value → jm_M → Prop} {k0 : Fin 4} {x : Int32} (d : decode Y.2.1 pc = .ok (.istore_n k0, 1)) (hi : (k0 : Nat) < ls.length) (hno : jm_no ls (k0 : Nat) = true) (k : jm_J sc Y (pc + 1) (jm_st ls (k0 : Nat) (some (.int x))) st M Q) : jm_J sc Y pc ls (.int x :: st) M Q := by
  intro p l e R s m args below meth c cells slots Z A D aC ad C hI hV H locs lsA hP hS hL hz
  exact lv_istore_n C.1 C.2.1 d rfl (jm_L_has hL) hi rfl (fun ls' h' => k p l e R s m args below meth c cells slots Z A D aC ad C hI hV H locs ls' hP hS (jm_L_st (v := .int x) hi hno h') (by rw [h'.1, ← hL.1]; exact hz))
theorem jm_istore {sc : jm_S} {Y : jm_Y} {pc : Nat} {ls : jm_Ls} {st : List Value} {M : jm_M} {Q : Option Value → jm_M → Prop} {i : Nat} {x : Int32} (d : decode Y.2.1 pc = .ok (.istore i, 2)) (hi : i < ls.length) (hno : jm_no ls i = true) (k : jm_J sc Y (pc + 2) (jm_st ls i (some (.int x))) st M Q) : jm_J sc Y pc ls (.int x :: st) M Q := by
  intro p l e R s m args below meth c cells slots Z A D aC ad C hI hV H locs lsA hP hS hL hz
  exact lv_istore C.1 C.2.1 d (jm_L_has hL) hi rfl (fun ls' h' => k p l e R s m args below meth c cells slots Z A D aC ad C hI hV H locs ls' hP hS (jm_L_st (v := .int x) hi hno h') (by rw [h'.1, ← hL.1]; exact hz))
theorem jm_lstore_n {sc : jm_S} {Y : jm_Y} {pc : Nat} {ls : jm_Ls} {st : List Value} {M : jm_M} {Q : Option Value → jm_M → Prop} {k0 : Fin 4} {x : Int64} (d : decode Y.2.1 pc = .ok (.lstore_n k0, 1)) (hi : (k0 : Nat) + 1 < ls.length) (hno : jm_no ls (k0 : Nat) = true) (k : jm_J sc Y (pc + 1) (jm_st (jm_st ls ((k0 : Nat) + 1) none) (k0 : Nat) (some (.long x))) st M Q) : jm_J sc Y pc ls (.long x :: st) M Q := by
  intro p l e R s m args below meth c cells slots Z A D aC ad C hI hV H locs lsA hP hS hL hz
  exact lv_lstore_n C.1 C.2.1 d rfl (jm_L_has hL) hi rfl (fun ls' h' => k p l e R s m args below meth c cells slots Z A D aC ad C hI hV H locs ls' hP hS (jm_L_st2 (v := .long x) hi hno h') (by rw [h'.1, ← hL.1]; exact hz))
theorem jm_lstore {sc : jm_S} {Y : jm_Y} {pc : Nat} {ls : jm_Ls} {st : List Value} {M : jm_M} {Q : Option Value → jm_M → Prop} {i : Nat} {x : Int64} (d : decode Y.2.1 pc = .ok (.lstore i, 2)) (hi : i + 1 < ls.length) (hno : jm_no ls i = true) (k : jm_J sc Y (pc + 2) (jm_st (jm_st ls (i + 1) none) i (some (.long x))) st M Q) : jm_J sc Y pc ls (.long x :: st) M Q := by
  intro p l e R s m args below meth c cells slots Z A D aC ad C hI hV H locs lsA hP hS hL hz
  exact lv_lstore C.1 C.2.1 d (jm_L_has hL) hi rfl (fun ls' h' => k p l e R s m args below meth c cells slots Z A D aC ad C hI hV H locs ls' hP hS (jm_L_st2 (v := .long x) hi hno h') (by rw [h'.1, ← hL.1]; exact hz))
theorem jm_astore_n {sc : jm_S} {Y : jm_Y} {pc : Nat} {ls : jm_Ls} {st : List Value} {M : jm_M} {Q : Option Value → jm_M → Prop} {k0 : Fin 4} {x : Nat} (d : decode Y.2.1 pc = .ok (.astore_n k0, 1)) (hi : (k0 : Nat) < ls.length) (hno : jm_no ls (k0 : Nat) = true) (k : jm_J sc Y (pc + 1) (jm_st ls (k0 : Nat) (some (.ref x))) st M Q) : jm_J sc Y pc ls (.ref x :: st) M Q := by
  intro p l e R s m args below meth c cells slots Z A D aC ad C hI hV H locs lsA hP hS hL hz
  exact lv_astore_n C.1 C.2.1 d rfl (jm_L_has hL) hi rfl (fun ls' h' => k p l e R s m args below meth c cells slots Z A D aC ad C hI hV H locs ls' hP hS (jm_L_st (v := .ref x) hi hno h') (by rw [h'.1, ← hL.1]; exact hz))
theorem jm_astore {sc : jm_S} {Y : jm_Y} {pc : Nat} {ls : jm_Ls} {st : List Value} {M : jm_M} {Q : Option Value → jm_M → Prop} {i : Nat} {x : Nat} (d : decode Y.2.1 pc = .ok (.astore i, 2)) (hi : i < ls.length) (hno : jm_no ls i = true) (k : jm_J sc Y (pc + 2) (jm_st ls i (some (.ref x))) st M Q) : jm_J sc Y pc ls (.ref x :: st) M Q := by
  intro p l e R s m args below meth c cells slots Z A D aC ad C hI hV H locs lsA hP hS hL hz
  exact lv_astore C.1 C.2.1 d (jm_L_has hL) hi rfl (fun ls' h' => k p l e R s m args below meth c cells slots Z A D aC ad C hI hV H locs ls' hP hS (jm_L_st (v := .ref x) hi hno h') (by rw [h'.1, ← hL.1]; exact hz))
theorem jm_iinc {sc : jm_S} {Y : jm_Y} {pc : Nat} {ls : jm_Ls} {st : List Value} {M : jm_M} {Q : Option Value → jm_M → Prop} {i : Nat} {n : Int} {x : Int32} (d : decode Y.2.1 pc = .ok (.iinc i n, 3)) (hl : ls[i]? = some (some (.int x))) (hno : jm_no ls i = true) (k : jm_J sc Y (pc + 3) (jm_st ls i (some (.int (x + Int32.ofInt n)))) st M Q) : jm_J sc Y pc ls st M Q := by
  intro p l e R s m args below meth c cells slots Z A D aC ad C hI hV H locs lsA hP hS hL hz
  have hi : i < ls.length := (List.getElem?_eq_some_iff.mp hl).1
  obtain ⟨k0, hk0⟩ := List.getElem?_of_mem (jm_pr_mem (ad := ad) hl)
  exact lv_iinc C.1 C.2.1 d (jm_L_has hL) (k := k0) hk0 rfl hi rfl (fun ls' h' => k p l e R s m args below meth c cells slots Z A D aC ad C hI hV H locs ls' hP hS (jm_L_st (v := .int (x + Int32.ofInt n)) hi hno h') (by rw [h'.1, ← hL.1]; exact hz))
theorem jm_iadd {sc : jm_S} {Y : jm_Y} {pc : Nat} {ls : jm_Ls} {st : List Value} {M : jm_M} {Q : Option Value → jm_M → Prop} {x y : Int32} (d : decode Y.2.1 pc = .ok (.iadd, 1))  (k : jm_J sc Y (pc + 1) ls (.int (x + y) :: st) M Q) : jm_J sc Y pc ls (.int y :: .int x :: st) M Q := by
  intro p l e R s m args below meth c cells slots Z A D aC ad C hI hV H locs lsA hP hS hL hz
  exact lv_iadd C.1 C.2.1 d (k p l e R s m args below meth c cells slots Z A D aC ad C hI hV H locs lsA hP hS hL hz)
theorem jm_isub {sc : jm_S} {Y : jm_Y} {pc : Nat} {ls : jm_Ls} {st : List Value} {M : jm_M} {Q : Option Value → jm_M → Prop} {x y : Int32} (d : decode Y.2.1 pc = .ok (.isub, 1))  (k : jm_J sc Y (pc + 1) ls (.int (x - y) :: st) M Q) : jm_J sc Y pc ls (.int y :: .int x :: st) M Q := by
  intro p l e R s m args below meth c cells slots Z A D aC ad C hI hV H locs lsA hP hS hL hz
  exact lv_isub C.1 C.2.1 d (k p l e R s m args below meth c cells slots Z A D aC ad C hI hV H locs lsA hP hS hL hz)
theorem jm_imul {sc : jm_S} {Y : jm_Y} {pc : Nat} {ls : jm_Ls} {st : List Value} {M : jm_M} {Q : Option Value → jm_M → Prop} {x y : Int32} (d : decode Y.2.1 pc = .ok (.imul, 1))  (k : jm_J sc Y (pc + 1) ls (.int (x * y) :: st) M Q) : jm_J sc Y pc ls (.int y :: .int x :: st) M Q := by
  intro p l e R s m args below meth c cells slots Z A D aC ad C hI hV H locs lsA hP hS hL hz
  exact lv_imul C.1 C.2.1 d (k p l e R s m args below meth c cells slots Z A D aC ad C hI hV H locs lsA hP hS hL hz)
theorem jm_iand {sc : jm_S} {Y : jm_Y} {pc : Nat} {ls : jm_Ls} {st : List Value} {M : jm_M} {Q : Option Value → jm_M → Prop} {x y : Int32} (d : decode Y.2.1 pc = .ok (.iand, 1))  (k : jm_J sc Y (pc + 1) ls (.int (x &&& y) :: st) M Q) : jm_J sc Y pc ls (.int y :: .int x :: st) M Q := by
  intro p l e R s m args below meth c cells slots Z A D aC ad C hI hV H locs lsA hP hS hL hz
  exact lv_iand C.1 C.2.1 d (k p l e R s m args below meth c cells slots Z A D aC ad C hI hV H locs lsA hP hS hL hz)
theorem jm_ior {sc : jm_S} {Y : jm_Y} {pc : Nat} {ls : jm_Ls} {st : List Value} {M : jm_M} {Q : Option Value → jm_M → Prop} {x y : Int32} (d : decode Y.2.1 pc = .ok (.ior, 1))  (k : jm_J sc Y (pc + 1) ls (.int (x ||| y) :: st) M Q) : jm_J sc Y pc ls (.int y :: .int x :: st) M Q := by
  intro p l e R s m args below meth c cells slots Z A D aC ad C hI hV H locs lsA hP hS hL hz
  exact lv_ior C.1 C.2.1 d (k p l e R s m args below meth c cells slots Z A D aC ad C hI hV H locs lsA hP hS hL hz)
theorem jm_ixor {sc : jm_S} {Y : jm_Y} {pc : Nat} {ls : jm_Ls} {st : List Value} {M : jm_M} {Q : Option Value → jm_M → Prop} {x y : Int32} (d : decode Y.2.1 pc = .ok (.ixor, 1))  (k : jm_J sc Y (pc + 1) ls (.int (x ^^^ y) :: st) M Q) : jm_J sc Y pc ls (.int y :: .int x :: st) M Q := by
  intro p l e R s m args below meth c cells slots Z A D aC ad C hI hV H locs lsA hP hS hL hz
  exact lv_ixor C.1 C.2.1 d (k p l e R s m args below meth c cells slots Z A D aC ad C hI hV H locs lsA hP hS hL hz)
theorem jm_ishl {sc : jm_S} {Y : jm_Y} {pc : Nat} {ls : jm_Ls} {st : List Value} {M : jm_M} {Q : Option Value → jm_M → Prop} {x y : Int32} (d : decode Y.2.1 pc = .ok (.ishl, 1))  (k : jm_J sc Y (pc + 1) ls (.int (x <<< (y &&& 31)) :: st) M Q) : jm_J sc Y pc ls (.int y :: .int x :: st) M Q := by
  intro p l e R s m args below meth c cells slots Z A D aC ad C hI hV H locs lsA hP hS hL hz
  exact lv_ishl C.1 C.2.1 d (k p l e R s m args below meth c cells slots Z A D aC ad C hI hV H locs lsA hP hS hL hz)
theorem jm_ishr {sc : jm_S} {Y : jm_Y} {pc : Nat} {ls : jm_Ls} {st : List Value} {M : jm_M} {Q : Option Value → jm_M → Prop} {x y : Int32} (d : decode Y.2.1 pc = .ok (.ishr, 1))  (k : jm_J sc Y (pc + 1) ls (.int (x >>> (y &&& 31)) :: st) M Q) : jm_J sc Y pc ls (.int y :: .int x :: st) M Q := by
  intro p l e R s m args below meth c cells slots Z A D aC ad C hI hV H locs lsA hP hS hL hz
  exact lv_ishr C.1 C.2.1 d (k p l e R s m args below meth c cells slots Z A D aC ad C hI hV H locs lsA hP hS hL hz)
theorem jm_idiv {sc : jm_S} {Y : jm_Y} {pc : Nat} {ls : jm_Ls} {st : List Value} {M : jm_M} {Q : Option Value → jm_M → Prop} {x y : Int32} (d : decode Y.2.1 pc = .ok (.idiv, 1)) (hne : ¬ y = 0) (k : jm_J sc Y (pc + 1) ls (.int (x / y) :: st) M Q) : jm_J sc Y pc ls (.int y :: .int x :: st) M Q := by
  intro p l e R s m args below meth c cells slots Z A D aC ad C hI hV H locs lsA hP hS hL hz
  exact lv_idiv C.1 C.2.1 d hne (k p l e R s m args below meth c cells slots Z A D aC ad C hI hV H locs lsA hP hS hL hz)
theorem jm_irem {sc : jm_S} {Y : jm_Y} {pc : Nat} {ls : jm_Ls} {st : List Value} {M : jm_M} {Q : Option Value → jm_M → Prop} {x y : Int32} (d : decode Y.2.1 pc = .ok (.irem, 1)) (hne : ¬ y = 0) (k : jm_J sc Y (pc + 1) ls (.int (x - x / y * y) :: st) M Q) : jm_J sc Y pc ls (.int y :: .int x :: st) M Q := by
  intro p l e R s m args below meth c cells slots Z A D aC ad C hI hV H locs lsA hP hS hL hz
  exact lv_irem C.1 C.2.1 d hne (k p l e R s m args below meth c cells slots Z A D aC ad C hI hV H locs lsA hP hS hL hz)
theorem jm_iushr {sc : jm_S} {Y : jm_Y} {pc : Nat} {ls : jm_Ls} {st : List Value} {M : jm_M} {Q : Option Value → jm_M → Prop} {x y : Int32} (d : decode Y.2.1 pc = .ok (.iushr, 1))  (k : jm_J sc Y (pc + 1) ls (.int ((x.toUInt32 >>> (y.toUInt32 &&& Int32.toUInt32 31)).toInt32) :: st) M Q) : jm_J sc Y pc ls (.int y :: .int x :: st) M Q := by
  intro p l e R s m args below meth c cells slots Z A D aC ad C hI hV H locs lsA hP hS hL hz
  exact lv_iushr C.1 C.2.1 d rfl (k p l e R s m args below meth c cells slots Z A D aC ad C hI hV H locs lsA hP hS hL hz)
theorem jm_ineg {sc : jm_S} {Y : jm_Y} {pc : Nat} {ls : jm_Ls} {st : List Value} {M : jm_M} {Q : Option Value → jm_M → Prop} {x : Int32} (d : decode Y.2.1 pc = .ok (.ineg, 1))  (k : jm_J sc Y (pc + 1) ls (.int (-x) :: st) M Q) : jm_J sc Y pc ls (.int x :: st) M Q := by
  intro p l e R s m args below meth c cells slots Z A D aC ad C hI hV H locs lsA hP hS hL hz
  exact lv_ineg C.1 C.2.1 d (k p l e R s m args below meth c cells slots Z A D aC ad C hI hV H locs lsA hP hS hL hz)
theorem jm_lmul {sc : jm_S} {Y : jm_Y} {pc : Nat} {ls : jm_Ls} {st : List Value} {M : jm_M} {Q : Option Value → jm_M → Prop} {x y : Int64} (d : decode Y.2.1 pc = .ok (.lmul, 1))  (k : jm_J sc Y (pc + 1) ls (.long (x * y) :: st) M Q) : jm_J sc Y pc ls (.long y :: .long x :: st) M Q := by
  intro p l e R s m args below meth c cells slots Z A D aC ad C hI hV H locs lsA hP hS hL hz
  exact lv_lmul C.1 C.2.1 d (k p l e R s m args below meth c cells slots Z A D aC ad C hI hV H locs lsA hP hS hL hz)
theorem jm_lrem {sc : jm_S} {Y : jm_Y} {pc : Nat} {ls : jm_Ls} {st : List Value} {M : jm_M} {Q : Option Value → jm_M → Prop} {x y : Int64} (d : decode Y.2.1 pc = .ok (.lrem, 1)) (hne : ¬ y = 0) (k : jm_J sc Y (pc + 1) ls (.long (x - x / y * y) :: st) M Q) : jm_J sc Y pc ls (.long y :: .long x :: st) M Q := by
  intro p l e R s m args below meth c cells slots Z A D aC ad C hI hV H locs lsA hP hS hL hz
  exact lv_lrem C.1 C.2.1 d hne (k p l e R s m args below meth c cells slots Z A D aC ad C hI hV H locs lsA hP hS hL hz)
theorem jm_i2l {sc : jm_S} {Y : jm_Y} {pc : Nat} {ls : jm_Ls} {st : List Value} {M : jm_M} {Q : Option Value → jm_M → Prop} {x : Int32} (d : decode Y.2.1 pc = .ok (.i2l, 1))  (k : jm_J sc Y (pc + 1) ls (.long (x.toInt64) :: st) M Q) : jm_J sc Y pc ls (.int x :: st) M Q := by
  intro p l e R s m args below meth c cells slots Z A D aC ad C hI hV H locs lsA hP hS hL hz
  exact lv_i2l C.1 C.2.1 d rfl (k p l e R s m args below meth c cells slots Z A D aC ad C hI hV H locs lsA hP hS hL hz)
theorem jm_l2i {sc : jm_S} {Y : jm_Y} {pc : Nat} {ls : jm_Ls} {st : List Value} {M : jm_M} {Q : Option Value → jm_M → Prop} {x : Int64} (d : decode Y.2.1 pc = .ok (.l2i, 1))  (k : jm_J sc Y (pc + 1) ls (.int (x.toInt32) :: st) M Q) : jm_J sc Y pc ls (.long x :: st) M Q := by
  intro p l e R s m args below meth c cells slots Z A D aC ad C hI hV H locs lsA hP hS hL hz
  exact lv_l2i C.1 C.2.1 d rfl (k p l e R s m args below meth c cells slots Z A D aC ad C hI hV H locs lsA hP hS hL hz)
theorem jm_i2b {sc : jm_S} {Y : jm_Y} {pc : Nat} {ls : jm_Ls} {st : List Value} {M : jm_M} {Q : Option Value → jm_M → Prop} {x : Int32} (d : decode Y.2.1 pc = .ok (.i2b, 1))  (k : jm_J sc Y (pc + 1) ls (.int (x.toInt8.toInt32) :: st) M Q) : jm_J sc Y pc ls (.int x :: st) M Q := by
  intro p l e R s m args below meth c cells slots Z A D aC ad C hI hV H locs lsA hP hS hL hz
  exact lv_i2b C.1 C.2.1 d rfl (k p l e R s m args below meth c cells slots Z A D aC ad C hI hV H locs lsA hP hS hL hz)
theorem jm_i2s {sc : jm_S} {Y : jm_Y} {pc : Nat} {ls : jm_Ls} {st : List Value} {M : jm_M} {Q : Option Value → jm_M → Prop} {x : Int32} (d : decode Y.2.1 pc = .ok (.i2s, 1))  (k : jm_J sc Y (pc + 1) ls (.int (x.toInt16.toInt32) :: st) M Q) : jm_J sc Y pc ls (.int x :: st) M Q := by
  intro p l e R s m args below meth c cells slots Z A D aC ad C hI hV H locs lsA hP hS hL hz
  exact lv_i2s C.1 C.2.1 d rfl (k p l e R s m args below meth c cells slots Z A D aC ad C hI hV H locs lsA hP hS hL hz)
theorem jm_dup {sc : jm_S} {Y : jm_Y} {pc : Nat} {ls : jm_Ls} {st : List Value} {M : jm_M} {Q : Option Value → jm_M → Prop} {v : Value} (d : decode Y.2.1 pc = .ok (.dup, 1)) (hv : v.category = 1) (k : jm_J sc Y (pc + 1) ls (v :: v :: st) M Q) : jm_J sc Y pc ls (v :: st) M Q := by
  intro p l e R s m args below meth c cells slots Z A D aC ad C hI hV H locs lsA hP hS hL hz
  exact lv_dup C.1 C.2.1 d (by rw [jm_v_cat]; exact hv) (k p l e R s m args below meth c cells slots Z A D aC ad C hI hV H locs lsA hP hS hL hz)
theorem jm_pop {sc : jm_S} {Y : jm_Y} {pc : Nat} {ls : jm_Ls} {st : List Value} {M : jm_M} {Q : Option Value → jm_M → Prop} {v : Value} (d : decode Y.2.1 pc = .ok (.pop, 1)) (hv : v.category = 1) (k : jm_J sc Y (pc + 1) ls (st) M Q) : jm_J sc Y pc ls (v :: st) M Q := by
  intro p l e R s m args below meth c cells slots Z A D aC ad C hI hV H locs lsA hP hS hL hz
  exact lv_pop C.1 C.2.1 d (by rw [jm_v_cat]; exact hv) (k p l e R s m args below meth c cells slots Z A D aC ad C hI hV H locs lsA hP hS hL hz)
theorem jm_dup2 {sc : jm_S} {Y : jm_Y} {pc : Nat} {ls : jm_Ls} {st : List Value} {M : jm_M} {Q : Option Value → jm_M → Prop} {v w : Value} (d : decode Y.2.1 pc = .ok (.dup2, 1)) (hv : v.category = 1) (hw : w.category = 1) (k : jm_J sc Y (pc + 1) ls (v :: w :: v :: w :: st) M Q) : jm_J sc Y pc ls (v :: w :: st) M Q := by
  intro p l e R s m args below meth c cells slots Z A D aC ad C hI hV H locs lsA hP hS hL hz
  exact lv_dup2_11 C.1 C.2.1 d (by rw [jm_v_cat]; exact hv) (by rw [jm_v_cat]; exact hw) (k p l e R s m args below meth c cells slots Z A D aC ad C hI hV H locs lsA hP hS hL hz)
theorem jm_if_eq {sc : jm_S} {Y : jm_Y} {pc : Nat} {ls : jm_Ls} {st : List Value} {M : jm_M} {Q : Option Value → jm_M → Prop} {x : Int32} {off : Int} {tgt : Nat} (d : decode Y.2.1 pc = .ok (.ifCond .eq off, 3)) (ht : (pc : Int) + off = (tgt : Int)) (kt : x = 0 → jm_J sc Y tgt ls st M Q) (kf : ¬ x = 0 → jm_J sc Y (pc + 3) ls st M Q) : jm_J sc Y pc ls (.int x :: st) M Q := by
  intro p l e R s m args below meth c cells slots Z A D aC ad C hI hV H locs lsA hP hS hL hz
  exact lv_if_eq C.1 C.2.1 d ht (fun h => kt h p l e R s m args below meth c cells slots Z A D aC ad C hI hV H locs lsA hP hS hL hz) (fun h => kf h p l e R s m args below meth c cells slots Z A D aC ad C hI hV H locs lsA hP hS hL hz)
theorem jm_icmp_eq {sc : jm_S} {Y : jm_Y} {pc : Nat} {ls : jm_Ls} {st : List Value} {M : jm_M} {Q : Option Value → jm_M → Prop} {x y : Int32} {off : Int} {tgt : Nat} (d : decode Y.2.1 pc = .ok (.if_icmp .eq off, 3)) (ht : (pc : Int) + off = (tgt : Int)) (kt : x = y → jm_J sc Y tgt ls st M Q) (kf : ¬ x = y → jm_J sc Y (pc + 3) ls st M Q) : jm_J sc Y pc ls (.int y :: .int x :: st) M Q := by
  intro p l e R s m args below meth c cells slots Z A D aC ad C hI hV H locs lsA hP hS hL hz
  exact lv_icmp_eq C.1 C.2.1 d ht (fun h => kt h p l e R s m args below meth c cells slots Z A D aC ad C hI hV H locs lsA hP hS hL hz) (fun h => kf h p l e R s m args below meth c cells slots Z A D aC ad C hI hV H locs lsA hP hS hL hz)
theorem jm_if_ne {sc : jm_S} {Y : jm_Y} {pc : Nat} {ls : jm_Ls} {st : List Value} {M : jm_M} {Q : Option Value → jm_M → Prop} {x : Int32} {off : Int} {tgt : Nat} (d : decode Y.2.1 pc = .ok (.ifCond .ne off, 3)) (ht : (pc : Int) + off = (tgt : Int)) (kt : ¬ x = 0 → jm_J sc Y tgt ls st M Q) (kf : x = 0 → jm_J sc Y (pc + 3) ls st M Q) : jm_J sc Y pc ls (.int x :: st) M Q := by
  intro p l e R s m args below meth c cells slots Z A D aC ad C hI hV H locs lsA hP hS hL hz
  exact lv_if_ne C.1 C.2.1 d ht (fun h => kt h p l e R s m args below meth c cells slots Z A D aC ad C hI hV H locs lsA hP hS hL hz) (fun h => kf h p l e R s m args below meth c cells slots Z A D aC ad C hI hV H locs lsA hP hS hL hz)
theorem jm_icmp_ne {sc : jm_S} {Y : jm_Y} {pc : Nat} {ls : jm_Ls} {st : List Value} {M : jm_M} {Q : Option Value → jm_M → Prop} {x y : Int32} {off : Int} {tgt : Nat} (d : decode Y.2.1 pc = .ok (.if_icmp .ne off, 3)) (ht : (pc : Int) + off = (tgt : Int)) (kt : ¬ x = y → jm_J sc Y tgt ls st M Q) (kf : x = y → jm_J sc Y (pc + 3) ls st M Q) : jm_J sc Y pc ls (.int y :: .int x :: st) M Q := by
  intro p l e R s m args below meth c cells slots Z A D aC ad C hI hV H locs lsA hP hS hL hz
  exact lv_icmp_ne C.1 C.2.1 d ht (fun h => kt h p l e R s m args below meth c cells slots Z A D aC ad C hI hV H locs lsA hP hS hL hz) (fun h => kf h p l e R s m args below meth c cells slots Z A D aC ad C hI hV H locs lsA hP hS hL hz)
theorem jm_if_lt {sc : jm_S} {Y : jm_Y} {pc : Nat} {ls : jm_Ls} {st : List Value} {M : jm_M} {Q : Option Value → jm_M → Prop} {x : Int32} {off : Int} {tgt : Nat} (d : decode Y.2.1 pc = .ok (.ifCond .lt off, 3)) (ht : (pc : Int) + off = (tgt : Int)) (kt : x < 0 → jm_J sc Y tgt ls st M Q) (kf : ¬ x < 0 → jm_J sc Y (pc + 3) ls st M Q) : jm_J sc Y pc ls (.int x :: st) M Q := by
  intro p l e R s m args below meth c cells slots Z A D aC ad C hI hV H locs lsA hP hS hL hz
  exact lv_if_lt C.1 C.2.1 d ht (fun h => kt h p l e R s m args below meth c cells slots Z A D aC ad C hI hV H locs lsA hP hS hL hz) (fun h => kf h p l e R s m args below meth c cells slots Z A D aC ad C hI hV H locs lsA hP hS hL hz)
theorem jm_icmp_lt {sc : jm_S} {Y : jm_Y} {pc : Nat} {ls : jm_Ls} {st : List Value} {M : jm_M} {Q : Option Value → jm_M → Prop} {x y : Int32} {off : Int} {tgt : Nat} (d : decode Y.2.1 pc = .ok (.if_icmp .lt off, 3)) (ht : (pc : Int) + off = (tgt : Int)) (kt : x < y → jm_J sc Y tgt ls st M Q) (kf : ¬ x < y → jm_J sc Y (pc + 3) ls st M Q) : jm_J sc Y pc ls (.int y :: .int x :: st) M Q := by
  intro p l e R s m args below meth c cells slots Z A D aC ad C hI hV H locs lsA hP hS hL hz
  exact lv_icmp_lt C.1 C.2.1 d ht (fun h => kt h p l e R s m args below meth c cells slots Z A D aC ad C hI hV H locs lsA hP hS hL hz) (fun h => kf h p l e R s m args below meth c cells slots Z A D aC ad C hI hV H locs lsA hP hS hL hz)
theorem jm_if_ge {sc : jm_S} {Y : jm_Y} {pc : Nat} {ls : jm_Ls} {st : List Value} {M : jm_M} {Q : Option Value → jm_M → Prop} {x : Int32} {off : Int} {tgt : Nat} (d : decode Y.2.1 pc = .ok (.ifCond .ge off, 3)) (ht : (pc : Int) + off = (tgt : Int)) (kt : 0 ≤ x → jm_J sc Y tgt ls st M Q) (kf : ¬ 0 ≤ x → jm_J sc Y (pc + 3) ls st M Q) : jm_J sc Y pc ls (.int x :: st) M Q := by
  intro p l e R s m args below meth c cells slots Z A D aC ad C hI hV H locs lsA hP hS hL hz
  exact lv_if_ge C.1 C.2.1 d ht (fun h => kt h p l e R s m args below meth c cells slots Z A D aC ad C hI hV H locs lsA hP hS hL hz) (fun h => kf h p l e R s m args below meth c cells slots Z A D aC ad C hI hV H locs lsA hP hS hL hz)
theorem jm_icmp_ge {sc : jm_S} {Y : jm_Y} {pc : Nat} {ls : jm_Ls} {st : List Value} {M : jm_M} {Q : Option Value → jm_M → Prop} {x y : Int32} {off : Int} {tgt : Nat} (d : decode Y.2.1 pc = .ok (.if_icmp .ge off, 3)) (ht : (pc : Int) + off = (tgt : Int)) (kt : y ≤ x → jm_J sc Y tgt ls st M Q) (kf : ¬ y ≤ x → jm_J sc Y (pc + 3) ls st M Q) : jm_J sc Y pc ls (.int y :: .int x :: st) M Q := by
  intro p l e R s m args below meth c cells slots Z A D aC ad C hI hV H locs lsA hP hS hL hz
  exact lv_icmp_ge C.1 C.2.1 d ht (fun h => kt h p l e R s m args below meth c cells slots Z A D aC ad C hI hV H locs lsA hP hS hL hz) (fun h => kf h p l e R s m args below meth c cells slots Z A D aC ad C hI hV H locs lsA hP hS hL hz)
theorem jm_if_gt {sc : jm_S} {Y : jm_Y} {pc : Nat} {ls : jm_Ls} {st : List Value} {M : jm_M} {Q : Option Value → jm_M → Prop} {x : Int32} {off : Int} {tgt : Nat} (d : decode Y.2.1 pc = .ok (.ifCond .gt off, 3)) (ht : (pc : Int) + off = (tgt : Int)) (kt : 0 < x → jm_J sc Y tgt ls st M Q) (kf : ¬ 0 < x → jm_J sc Y (pc + 3) ls st M Q) : jm_J sc Y pc ls (.int x :: st) M Q := by
  intro p l e R s m args below meth c cells slots Z A D aC ad C hI hV H locs lsA hP hS hL hz
  exact lv_if_gt C.1 C.2.1 d ht (fun h => kt h p l e R s m args below meth c cells slots Z A D aC ad C hI hV H locs lsA hP hS hL hz) (fun h => kf h p l e R s m args below meth c cells slots Z A D aC ad C hI hV H locs lsA hP hS hL hz)
theorem jm_icmp_gt {sc : jm_S} {Y : jm_Y} {pc : Nat} {ls : jm_Ls} {st : List Value} {M : jm_M} {Q : Option Value → jm_M → Prop} {x y : Int32} {off : Int} {tgt : Nat} (d : decode Y.2.1 pc = .ok (.if_icmp .gt off, 3)) (ht : (pc : Int) + off = (tgt : Int)) (kt : y < x → jm_J sc Y tgt ls st M Q) (kf : ¬ y < x → jm_J sc Y (pc + 3) ls st M Q) : jm_J sc Y pc ls (.int y :: .int x :: st) M Q := by
  intro p l e R s m args below meth c cells slots Z A D aC ad C hI hV H locs lsA hP hS hL hz
  exact lv_icmp_gt C.1 C.2.1 d ht (fun h => kt h p l e R s m args below meth c cells slots Z A D aC ad C hI hV H locs lsA hP hS hL hz) (fun h => kf h p l e R s m args below meth c cells slots Z A D aC ad C hI hV H locs lsA hP hS hL hz)
theorem jm_if_le {sc : jm_S} {Y : jm_Y} {pc : Nat} {ls : jm_Ls} {st : List Value} {M : jm_M} {Q : Option Value → jm_M → Prop} {x : Int32} {off : Int} {tgt : Nat} (d : decode Y.2.1 pc = .ok (.ifCond .le off, 3)) (ht : (pc : Int) + off = (tgt : Int)) (kt : x ≤ 0 → jm_J sc Y tgt ls st M Q) (kf : ¬ x ≤ 0 → jm_J sc Y (pc + 3) ls st M Q) : jm_J sc Y pc ls (.int x :: st) M Q := by
  intro p l e R s m args below meth c cells slots Z A D aC ad C hI hV H locs lsA hP hS hL hz
  exact lv_if_le C.1 C.2.1 d ht (fun h => kt h p l e R s m args below meth c cells slots Z A D aC ad C hI hV H locs lsA hP hS hL hz) (fun h => kf h p l e R s m args below meth c cells slots Z A D aC ad C hI hV H locs lsA hP hS hL hz)
theorem jm_icmp_le {sc : jm_S} {Y : jm_Y} {pc : Nat} {ls : jm_Ls} {st : List Value} {M : jm_M} {Q : Option Value → jm_M → Prop} {x y : Int32} {off : Int} {tgt : Nat} (d : decode Y.2.1 pc = .ok (.if_icmp .le off, 3)) (ht : (pc : Int) + off = (tgt : Int)) (kt : x ≤ y → jm_J sc Y tgt ls st M Q) (kf : ¬ x ≤ y → jm_J sc Y (pc + 3) ls st M Q) : jm_J sc Y pc ls (.int y :: .int x :: st) M Q := by
  intro p l e R s m args below meth c cells slots Z A D aC ad C hI hV H locs lsA hP hS hL hz
  exact lv_icmp_le C.1 C.2.1 d ht (fun h => kt h p l e R s m args below meth c cells slots Z A D aC ad C hI hV H locs lsA hP hS hL hz) (fun h => kf h p l e R s m args below meth c cells slots Z A D aC ad C hI hV H locs lsA hP hS hL hz)
theorem jm_goto {sc : jm_S} {Y : jm_Y} {pc : Nat} {ls : jm_Ls} {st : List Value} {M : jm_M} {Q : Option Value → jm_M → Prop} {off : Int} {tgt : Nat} (d : decode Y.2.1 pc = .ok (.goto off, 3)) (ht : (pc : Int) + off = (tgt : Int)) (k : jm_J sc Y tgt ls st M Q) : jm_J sc Y pc ls st M Q := by
  intro p l e R s m args below meth c cells slots Z A D aC ad C hI hV H locs lsA hP hS hL hz
  exact lv_goto C.1 C.2.1 d ht (k p l e R s m args below meth c cells slots Z A D aC ad C hI hV H locs lsA hP hS hL hz)
theorem jm_tin {sc : jm_S} {Y : jm_Y} {pc : Nat} {ls : jm_Ls} {st : List Value} {M : jm_M} {Q : Option Value → jm_M → Prop} {dflt lo hi : Int} {offs : Array Int} {len : Nat} {x : Int32} {off : Int} {tgt : Nat} (d : decode Y.2.1 pc = .ok (.tableswitch dflt lo hi offs, len)) (h1 : ¬ x.toInt < lo) (h2 : ¬ hi < x.toInt) (ho : offs[(x.toInt - lo).toNat]? = some off) (ht : (pc : Int) + off = (tgt : Int)) (k : jm_J sc Y tgt ls st M Q) : jm_J sc Y pc ls (.int x :: st) M Q := by
  intro p l e R s m args below meth c cells slots Z A D aC ad C hI hV H locs lsA hP hS hL hz
  exact lv_tableIn C.1 C.2.1 d h1 h2 ho ht (k p l e R s m args below meth c cells slots Z A D aC ad C hI hV H locs lsA hP hS hL hz)
theorem jm_tout {sc : jm_S} {Y : jm_Y} {pc : Nat} {ls : jm_Ls} {st : List Value} {M : jm_M} {Q : Option Value → jm_M → Prop} {dflt lo hi : Int} {offs : Array Int} {len : Nat} {x : Int32} {tgt : Nat} (d : decode Y.2.1 pc = .ok (.tableswitch dflt lo hi offs, len)) (h : x.toInt < lo ∨ hi < x.toInt) (ht : (pc : Int) + dflt = (tgt : Int)) (k : jm_J sc Y tgt ls st M Q) : jm_J sc Y pc ls (.int x :: st) M Q := by
  intro p l e R s m args below meth c cells slots Z A D aC ad C hI hV H locs lsA hP hS hL hz
  exact lv_tableOut C.1 C.2.1 d h ht (k p l e R s m args below meth c cells slots Z A D aC ad C hI hV H locs lsA hP hS hL hz)
theorem jm_look {sc : jm_S} {Y : jm_Y} {pc : Nat} {ls : jm_Ls} {st : List Value} {M : jm_M} {Q : Option Value → jm_M → Prop} {dflt : Int} {ps : Array (Int × Int)} {len : Nat} {x : Int32} {off : Int} {tgt : Nat} (d : decode Y.2.1 pc = .ok (.lookupswitch dflt ps, len)) (hp : (ps.toList.zip (ps.toList.drop 1)).all (fun (a, next) => a.1 < next.1) = true) (ho : Op.lookupswitch.offset ps.toList dflt x.toInt = off) (ht : (pc : Int) + off = (tgt : Int)) (k : jm_J sc Y tgt ls st M Q) : jm_J sc Y pc ls (.int x :: st) M Q := by
  intro p l e R s m args below meth c cells slots Z A D aC ad C hI hV H locs lsA hP hS hL hz
  exact lv_lookup C.1 C.2.1 d hp ho ht (k p l e R s m args below meth c cells slots Z A D aC ad C hI hV H locs lsA hP hS hL hz)
theorem jm_ret {sc : jm_S} {Y : jm_Y} {pc : Nat} {ls : jm_Ls} {st : List Value} {M : jm_M} {Q : Option Value → jm_M → Prop} {v : Int32} {ty : FieldType} (d : decode Y.2.1 pc = .ok (.ireturn, 1)) (hr : Y.2.2.2.1 = some ty) (hn : narrow ty (.int v) = .int v) (hq : Q (some (.int v)) M) : jm_J sc Y pc ls [.int v] M Q := by
  intro p l e R s m args below meth c cells slots Z A D aC ad C hI hV H locs lsA hP hS hL hz
  exact hI v M H locs pc lsA ty hq hP hS hr hn d
theorem jm_retv {sc : jm_S} {Y : jm_Y} {pc : Nat} {ls : jm_Ls} {st : List Value} {M : jm_M} {Q : Option Value → jm_M → Prop} (d : decode Y.2.1 pc = .ok (.return_, 1)) (hr : Y.2.2.2.1 = none) (hq : Q none M) : jm_J sc Y pc ls [] M Q := by
  intro p l e R s m args below meth c cells slots Z A D aC ad C hI hV H locs lsA hP hS hL hz
  exact hV M H locs pc lsA hq hP hS hr d
end
section
/-! fields, arrays, calls -/
def jm_F (own : String) (idx ci k : Nat) : Prop := ∃ (C : String) (T : u_T) (N : Nat), classes[ci]? = some (C, T, N) ∧ k < N ∧ (T k).1 = C ∧ Cond.fieldLink own idx C (T k).2.1 (T k).2.2.1 ∈ jm_tb ∧ (∀ w ∈ u_ws C T N, w ∈ jm_tb)
/-- a field of ints that may be written -/
def jm_FW (own : String) (idx ci k : Nat) : Prop := ∃ (C : String) (T : u_T) (N : Nat) (ty0 : Nat → FieldType), classes[ci]? = some (C, T, N) ∧ k < N ∧ (T k).1 = C ∧ Cond.fieldLink own idx C (T k).2.1 (T k).2.2.1 ∈ jm_tb ∧ (∀ w ∈ u_ws C T N, w ∈ jm_tb) ∧ (T k).2.2.2 = false ∧ parseFieldDescriptor (T k).2.2.1 = some .int ∧ (∀ k, k < N → parseFieldDescriptor (T k).2.2.1 = some (ty0 k)) ∧ (∀ a, a < N → ∀ b, b < N → a ≠ b → (T a).2.1 ≠ (T b).2.1)
theorem jm_FW.F {own : String} {idx ci k : Nat} (h : jm_FW own idx ci k) : jm_F own idx ci k := by
  obtain ⟨C, T, N, ty0, h1, h2, h3, h4, h5, -⟩ := h
  exact ⟨C, T, N, h1, h2, h3, h4, h5⟩
theorem jm_getI {sc : jm_S} {Y : jm_Y} {pc : Nat} {ls : jm_Ls} {st : List Value} {M : jm_M} {Q : Option Value → jm_M → Prop} {idx ci k i n : Nat} (d : decode Y.2.1 pc = .ok (.getfield idx, 3)) (F : jm_F Y.1.cls idx ci k) (hob : jm_ob i = some (ci, n)) (hkn : k < n) (hr : jm_rf i k = none) (kk : jm_J sc Y (pc + 3) ls (.int (M i k) :: st) M Q) : jm_J sc Y pc ls (.ref i :: st) M Q := by
  intro p l e R s m args below meth c cells slots Z A D aC ad C hI hV H locs lsA hP hS hL hz
  obtain ⟨hx, hb, hml, hown, hts, hK, hij, hA, hZ, hT, hR, hC, hsc⟩ := id C
  obtain ⟨Cn, T, N, f1, f2, f3, f4, f5⟩ := F
  exact va_get (D := D) (ci := ci) (v := .int (M i k)) (C := Cn) (T := T) (N := N) (ref := Cn) hx hb hts f5 hown hK hP i (by rw [jm_at (jm_ob_lt hob), jm_e_ob hob]) f1 k f2 (hts _ f4) (fun x h => by rw [f3] at h; exact h) (by rw [jm_fs_at hkn, hr]) d (kk p l e R s m args below meth c cells slots Z A D aC ad C hI hV H locs lsA hP hS hL hz)
theorem jm_getR {sc : jm_S} {Y : jm_Y} {pc : Nat} {ls : jm_Ls} {st : List Value} {M : jm_M} {Q : Option Value → jm_M → Prop} {idx ci k i n j : Nat} (d : decode Y.2.1 pc = .ok (.getfield idx, 3)) (F : jm_F Y.1.cls idx ci k) (hob : jm_ob i = some (ci, n)) (hkn : k < n) (hr : jm_rf i k = some j) (kk : jm_J sc Y (pc + 3) ls (.ref j :: st) M Q) : jm_J sc Y pc ls (.ref i :: st) M Q := by
  intro p l e R s m args below meth c cells slots Z A D aC ad C hI hV H locs lsA hP hS hL hz
  obtain ⟨hx, hb, hml, hown, hts, hK, hij, hA, hZ, hT, hR, hC, hsc⟩ := id C
  obtain ⟨Cn, T, N, f1, f2, f3, f4, f5⟩ := F
  exact va_get (D := D) (ci := ci) (v := .ref (ad j)) (C := Cn) (T := T) (N := N) (ref := Cn) hx hb hts f5 hown hK hP i (by rw [jm_at (jm_ob_lt hob), jm_e_ob hob]) f1 k f2 (hts _ f4) (fun x h => by rw [f3] at h; exact h) (by rw [jm_fs_at hkn, hr]) d (kk p l e R s m args below meth c cells slots Z A D aC ad C hI hV H locs lsA hP hS hL hz)
theorem jm_put {sc : jm_S} {Y : jm_Y} {pc : Nat} {ls : jm_Ls} {st : List Value} {M : jm_M} {Q : Option Value → jm_M → Prop} {idx ci k i n : Nat} {v : Int32} (d : decode Y.2.1 pc = .ok (.putfield idx, 3)) (F : jm_FW Y.1.cls idx ci k) (hob : jm_ob i = some (ci, n)) (hkn : k < n) (hr : jm_rf i k = none) (kk : jm_J sc Y (pc + 3) ls st (jm_sf M i (upd (M i) k v)) Q) : jm_J sc Y pc ls (.int v :: .ref i :: st) M Q := by
  intro p l e R s m args below meth c cells slots Z A D aC ad C hI hV H locs lsA hP hS hL hz
  obtain ⟨hx, hb, hml, hown, hts, hK, hij, hA, hZ, hT, hR, hC, hsc⟩ := id C
  obtain ⟨Cn, T, N, ty0, f1, f2, f3, f4, f5, f6, f7, f8, f9⟩ := F
  have hs : (jm_ws aC ad M).set i (ad i, .inr (ci, (jm_fs ad M i n).set k (.int v))) = jm_ws aC ad (jm_sf M i (upd (M i) k v)) := jm_set (jm_ob_lt hob) (by rw [jm_e_ob hob, jm_fs_set hkn hr])
  refine va_put (D := D) (ci := ci) (v := .int v) (ty := .int) (C := Cn) (T := T) (N := N) (ref := Cn) (fs := jm_fs ad M i n) hx hb hts f5 ty0 f8 f9 hown hK hP (jm_D hij hA) hS i (by rw [jm_at (jm_ob_lt hob), jm_e_ob hob]) f1 k f2 (hts _ f4) (fun x h => by rw [f3] at h; exact h) f6 f7 rfl rfl (by rw [jm_fs_len]; exact hkn) d (fun H1 locs1 hP1 hD1 hS1 => ?_)
  rw [hs] at hP1
  exact kk p l e R s m args below meth c cells slots Z A D aC ad C hI hV H1 locs1 lsA hP1 hS1 hL hz
theorem jm_iald {sc : jm_S} {Y : jm_Y} {pc : Nat} {ls : jm_Ls} {st : List Value} {M : jm_M} {Q : Option Value → jm_M → Prop} {i n : Nat} {x : Int32} (d : decode Y.2.1 pc = .ok (.iaload, 1)) (har : jm_ar i = some (0, n)) (hin : vp_in x n) (kk : jm_J sc Y (pc + 1) ls (.int (M i x.toNatClampNeg) :: st) M Q) : jm_J sc Y pc ls (.int x :: .ref i :: st) M Q := by
  intro p l e R s m args below meth c cells slots Z A D aC ad C hI hV H locs lsA hP hS hL hz
  obtain ⟨hx, hb, hml, hown, hts, hK, hij, hA, hZ, hT, hR, hC, hsc⟩ := id C
  exact va_iald hx hb hK hP i 0 (by rw [jm_at (jm_ar_lt har), jm_e_ar har (by decide)]) rfl hin d (kk p l e R s m args below meth c cells slots Z A D aC ad C hI hV H locs lsA hP hS hL hz)
theorem jm_zald {sc : jm_S} {Y : jm_Y} {pc : Nat} {ls : jm_Ls} {st : List Value} {M : jm_M} {Q : Option Value → jm_M → Prop} {i n : Nat} {x : Int32} (d : decode Y.2.1 pc = .ok (.baload, 1)) (har : jm_ar i = some (1, n)) (hin : vp_in x n) (kk : jm_J sc Y (pc + 1) ls (.int (M i x.toNatClampNeg) :: st) M Q) : jm_J sc Y pc ls (.int x :: .ref i :: st) M Q := by
  intro p l e R s m args below meth c cells slots Z A D aC ad C hI hV H locs lsA hP hS hL hz
  obtain ⟨hx, hb, hml, hown, hts, hK, hij, hA, hZ, hT, hR, hC, hsc⟩ := id C
  exact va_zald hx hb hK hP i 1 (by rw [jm_at (jm_ar_lt har), jm_e_ar har (by decide)]) rfl hin d (kk p l e R s m args below meth c cells slots Z A D aC ad C hI hV H locs lsA hP hS hL hz)
theorem jm_iast {sc : jm_S} {Y : jm_Y} {pc : Nat} {ls : jm_Ls} {st : List Value} {M : jm_M} {Q : Option Value → jm_M → Prop} {i n : Nat} {x v : Int32} (d : decode Y.2.1 pc = .ok (.iastore, 1)) (har : jm_ar i = some (0, n)) (hin : vp_in x n) (kk : jm_J sc Y (pc + 1) ls st (jm_sf M i (upd (M i) x.toNatClampNeg v)) Q) : jm_J sc Y pc ls (.int v :: .int x :: .ref i :: st) M Q := by
  intro p l e R s m args below meth c cells slots Z A D aC ad C hI hV H locs lsA hP hS hL hz
  obtain ⟨hx, hb, hml, hown, hts, hK, hij, hA, hZ, hT, hR, hC, hsc⟩ := id C
  have hs : (jm_ws aC ad M).set i (ad i, .inl (aC 0, n, .inl (upd (M i) x.toNatClampNeg v))) = jm_ws aC ad (jm_sf M i (upd (M i) x.toNatClampNeg v)) := jm_set (jm_ar_lt har) (by rw [jm_e_ar har (by decide), jm_sf_s])
  refine va_iast hx hb hK hP (jm_D hij hA) hS i 0 (by rw [jm_at (jm_ar_lt har), jm_e_ar har (by decide)]) rfl hin d (fun H1 locs1 hP1 hD1 hS1 => ?_)
  rw [hs] at hP1
  exact kk p l e R s m args below meth c cells slots Z A D aC ad C hI hV H1 locs1 lsA hP1 hS1 hL hz
theorem jm_zast {sc : jm_S} {Y : jm_Y} {pc : Nat} {ls : jm_Ls} {st : List Value} {M : jm_M} {Q : Option Value → jm_M → Prop} {i n : Nat} {x v : Int32} (d : decode Y.2.1 pc = .ok (.bastore, 1)) (har : jm_ar i = some (1, n)) (hin : vp_in x n) (hv : vp_nar .boolean v = v) (kk : jm_J sc Y (pc + 1) ls st (jm_sf M i (upd (M i) x.toNatClampNeg v)) Q) : jm_J sc Y pc ls (.int v :: .int x :: .ref i :: st) M Q := by
  intro p l e R s m args below meth c cells slots Z A D aC ad C hI hV H locs lsA hP hS hL hz
  obtain ⟨hx, hb, hml, hown, hts, hK, hij, hA, hZ, hT, hR, hC, hsc⟩ := id C
  have hs : (jm_ws aC ad M).set i (ad i, .inl (aC 1, n, .inl (upd (M i) x.toNatClampNeg (vp_nar .boolean v)))) = jm_ws aC ad (jm_sf M i (upd (M i) x.toNatClampNeg v)) := by rw [hv]; exact jm_set (jm_ar_lt har) (by rw [jm_e_ar har (by decide), jm_sf_s])
  refine va_zast hx hb hK hP (jm_D hij hA) hS i 1 (by rw [jm_at (jm_ar_lt har), jm_e_ar har (by decide)]) rfl hin d (fun H1 locs1 hP1 hD1 hS1 => ?_)
  rw [hs] at hP1
  exact kk p l e R s m args below meth c cells slots Z A D aC ad C hI hV H1 locs1 lsA hP1 hS1 hL hz
theorem jm_aald {sc : jm_S} {Y : jm_Y} {pc : Nat} {ls : jm_Ls} {st : List Value} {M : jm_M} {Q : Option Value → jm_M → Prop} {i n j : Nat} {x : Int32} (d : decode Y.2.1 pc = .ok (.aaload, 1)) (har : jm_ar i = some (2, n)) (hin : vp_in x n) (hr : jm_rf i x.toNatClampNeg = some j) (kk : jm_J sc Y (pc + 1) ls (.ref j :: st) M Q) : jm_J sc Y pc ls (.int x :: .ref i :: st) M Q := by
  intro p l e R s m args below meth c cells slots Z A D aC ad C hI hV H locs lsA hP hS hL hz
  obtain ⟨hx, hb, hml, hown, hts, hK, hij, hA, hZ, hT, hR, hC, hsc⟩ := id C
  refine va_aldq (f := fun k => (jm_rf i k).map ad) hx hb hK hP i 2 (by rw [jm_at (jm_ar_lt har), jm_e_aq har (by decide)]) rfl hin d ?_
  rw [hr]
  exact kk p l e R s m args below meth c cells slots Z A D aC ad C hI hV H locs lsA hP hS hL hz
theorem jm_aaldI {sc : jm_S} {Y : jm_Y} {pc : Nat} {ls : jm_Ls} {st : List Value} {M : jm_M} {Q : Option Value → jm_M → Prop} {i n j : Nat} {x : Int32} (d : decode Y.2.1 pc = .ok (.aaload, 1)) (har : jm_ar i = some (3, n)) (hin : vp_in x n) (hr : jm_rf i x.toNatClampNeg = some j) (kk : jm_J sc Y (pc + 1) ls (.ref j :: st) M Q) : jm_J sc Y pc ls (.int x :: .ref i :: st) M Q := by
  intro p l e R s m args below meth c cells slots Z A D aC ad C hI hV H locs lsA hP hS hL hz
  obtain ⟨hx, hb, hml, hown, hts, hK, hij, hA, hZ, hT, hR, hC, hsc⟩ := id C
  have hlt : x.toNatClampNeg < n := Nat.not_le.mp fun q => hin (Or.inr q)
  have hPi := hP i _ (by rw [jm_at (jm_ar_lt har), jm_e_aq har (by decide)])
  refine W.aald (v := .ref (ad j)) (ty := .array .int) hx hb hPi ((hK.2 3 _ rfl).1 n (fun k => va_rf ((jm_rf i k).map ad))) rfl (fun q => by cases q) (by show ¬ (x < 0 ∨ (arrV _ _ _).slots.size ≤ _); rw [arrV_size]; exact hin) (by show (arrV _ _ _).slots[_]? = _; rw [arrV_read _ _ hlt]; show some (va_rf (Option.map ad (jm_rf i x.toNatClampNeg))) = _; rw [hr]; rfl) rfl rfl d ?_
  exact kk p l e R s m args below meth c cells slots Z A D aC ad C hI hV H locs lsA hP hS hL hz
theorem jm_alen {sc : jm_S} {Y : jm_Y} {pc : Nat} {ls : jm_Ls} {st : List Value} {M : jm_M} {Q : Option Value → jm_M → Prop} {i t n : Nat} (d : decode Y.2.1 pc = .ok (.arraylength, 1)) (har : jm_ar i = some (t, n)) (ht : t = 0) (kk : jm_J sc Y (pc + 1) ls (.int (nI n) :: st) M Q) : jm_J sc Y pc ls (.ref i :: st) M Q := by
  intro p l e R s m args below meth c cells slots Z A D aC ad C hI hV H locs lsA hP hS hL hz
  obtain ⟨hx, hb, hml, hown, hts, hK, hij, hA, hZ, hT, hR, hC, hsc⟩ := id C
  subst ht
  exact va_alen (x := (n, .inl (M i))) hx hb hK hP i 0 (by rw [jm_at (jm_ar_lt har), jm_e_ar har (by decide)]) rfl rfl d (kk p l e R s m args below meth c cells slots Z A D aC ad C hI hV H locs lsA hP hS hL hz)
theorem jm_sld {L : Nat} {xs : Nat → Int32} {Y : jm_Y} {pc : Nat} {ls : jm_Ls} {st : List Value} {M : jm_M} {Q : Option Value → jm_M → Prop} {x : Int32} (d : decode Y.2.1 pc = .ok (.iaload, 1)) (hin : vp_in x L) (kk : jm_J (some (L, xs)) Y (pc + 1) ls (.int (xs x.toNatClampNeg) :: st) M Q) : jm_J (some (L, xs)) Y pc ls (.int x :: .ref 1000 :: st) M Q := by
  intro p l e R s m args below meth c cells slots Z A D aC ad C hI hV H locs lsA hP hS hL hz
  obtain ⟨hx, hb, hml, hown, hts, hK, hij, hA, hZ, hT, hR, hC, hsc⟩ := id C
  exact va_sld hx hb hsc.1 hsc.2.1 hsc.2.2 hS hin d (kk p l e R s m args below meth c cells slots Z A D aC ad C hI hV H locs lsA hP hS hL hz)
theorem jm_slen {L : Nat} {xs : Nat → Int32} {Y : jm_Y} {pc : Nat} {ls : jm_Ls} {st : List Value} {M : jm_M} {Q : Option Value → jm_M → Prop} (d : decode Y.2.1 pc = .ok (.arraylength, 1)) (kk : jm_J (some (L, xs)) Y (pc + 1) ls (.int (nI L) :: st) M Q) : jm_J (some (L, xs)) Y pc ls (.ref 1000 :: st) M Q := by
  intro p l e R s m args below meth c cells slots Z A D aC ad C hI hV H locs lsA hP hS hL hz
  obtain ⟨hx, hb, hml, hown, hts, hK, hij, hA, hZ, hT, hR, hC, hsc⟩ := id C
  exact va_slen hx hb hsc.1 hsc.2.1 hsc.2.2 hS d (kk p l e R s m args below meth c cells slots Z A D aC ad C hI hV H locs lsA hP hS hL hz)
theorem jm_abv {sc : jm_S} {Y : jm_Y} {pc : Nat} {ls : jm_Ls} {st : List Value} {M : jm_M} {Q : Option Value → jm_M → Prop} {idx : Nat} (d : decode Y.2.1 pc = .ok (.getstatic idx, 3)) (hw : Cond.fieldLink Y.1.cls idx "WeirWords$Kinds" "ABOVE" "[I" ∈ jm_tb) (kk : jm_J sc Y (pc + 3) ls (.ref 1001 :: st) M Q) : jm_J sc Y pc ls st M Q := by
  intro p l e R s m args below meth c cells slots Z A D aC ad C hI hV H locs lsA hP hS hL hz
  obtain ⟨hx, hb, hml, hown, hts, hK, hij, hA, hZ, hT, hR, hC, hsc⟩ := id C
  exact va_gets hx hb hZ hS hown (hts _ hw) (fun x h => h) d (kk p l e R s m args below meth c cells slots Z A D aC ad C hI hV H locs lsA hP hS hL hz)
theorem jm_abld {sc : jm_S} {Y : jm_Y} {pc : Nat} {ls : jm_Ls} {st : List Value} {M : jm_M} {Q : Option Value → jm_M → Prop} {x v : Int32} (d : decode Y.2.1 pc = .ok (.iaload, 1)) (hin : vp_in x 6) (hv : jm_ab x.toNatClampNeg = .int v) (kk : jm_J sc Y (pc + 1) ls (.int v :: st) M Q) : jm_J sc Y pc ls (.int x :: .ref 1001 :: st) M Q := by
  intro p l e R s m args below meth c cells slots Z A D aC ad C hI hV H locs lsA hP hS hL hz
  obtain ⟨hx, hb, hml, hown, hts, hK, hij, hA, hZ, hT, hR, hC, hsc⟩ := id C
  exact va_ti hx hb hT hS hin hv d (kk p l e R s m args below meth c cells slots Z A D aC ad C hI hV H locs lsA hP hS hL hz)
theorem jm_copy {sc : jm_S} {Y : jm_Y} {pc : Nat} {ls : jm_Ls} {st : List Value} {M : jm_M} {Q : Option Value → jm_M → Prop} {idx i j n0 n1 : Nat} {sp dp n : Int32} (d : decode Y.2.1 pc = .ok (.invokestatic idx, 3)) (hl : Cond.methodLink Y.1.cls idx arraycopyName ∈ jm_tb) (hw : Cond.native arraycopyName ∈ jm_tb ∧ Cond.static arraycopyName ∈ jm_tb ∧ Cond.initialized "java/lang/System" ∈ jm_tb) (hi : jm_ar i = some (0, n0)) (hj : jm_ar j = some (0, n1)) (h1 : ¬ sp < 0) (h2 : ¬ dp < 0) (h3 : ¬ n < 0) (h4 : sp.toNatClampNeg + n.toNatClampNeg ≤ n0) (h5 : dp.toNatClampNeg + n.toNatClampNeg ≤ n1)
    (hfr : 1 ≤ Y.2.2.2.2.1) (hlo : (st.map fun v => v.category).sum + (nativeFrameWords "java/lang/System" "arraycopy" 5 + 11) ≤ Y.2.2.2.2.2) (kk : jm_J sc Y (pc + 3) ls st (jm_sf M j (va_cpy (M i) (M j) sp.toNatClampNeg dp.toNatClampNeg n.toNatClampNeg)) Q) : jm_J sc Y pc ls (.int n :: .int dp :: .ref j :: .int sp :: .ref i :: st) M Q := by
  intro p l e R s m args below meth c cells slots Z A D aC ad C hI hV H locs lsA hP hS hL hz
  obtain ⟨hx, hb, hml, hown, hts, hK, hij, hA, hZ, hT, hR, hC, hsc⟩ := id C
  have hs : (jm_ws aC ad M).set j (ad j, .inl (aC 0, n1, .inl (va_cpy (M i) (M j) sp.toNatClampNeg dp.toNatClampNeg n.toNatClampNeg))) = jm_ws aC ad (jm_sf M j (va_cpy (M i) (M j) sp.toNatClampNeg dp.toNatClampNeg n.toNatClampNeg)) := jm_set (jm_ar_lt hj) (by rw [jm_e_ar hj (by decide), jm_sf_s])
  refine va_copyi hx hb (hml.trans hz.symm) hown (hts _ hl) (hts _ hw.1) (hts _ hw.2.1) (hts _ hw.2.2) hK hP (jm_D hij hA) hS i j 0 0 (by rw [jm_at (jm_ar_lt hi), jm_e_ar hi (by decide)]) (by rw [jm_at (jm_ar_lt hj), jm_e_ar hj (by decide)]) rfl rfl rfl h1 h2 h3 h4 h5 (fun _ _ => rfl) (Nat.le_trans hfr hR.1) (Nat.le_trans (by rw [List.map_map]; have e : ((fun v : Value => v.category) ∘ jm_v ad) = (fun v => v.category) := funext (fun v => jm_v_cat ad v); rw [e]; exact hlo) hR.2) d (fun H1 locs1 hP1 hD1 hS1 => ?_)
  rw [hs] at hP1
  exact kk p l e R s m args below meth c cells slots Z A D aC ad C hI hV H1 locs1 lsA hP1 hS1 hL hz
/-- weaker ends -/
theorem jm_wk {sc : jm_S} {Y : jm_Y} {pc : Nat} {ls : jm_Ls} {st : List Value} {M : jm_M} {Q Q' : Option Value → jm_M → Prop} (h : jm_J sc Y pc ls st M Q) (hQ : ∀ o M1, Q o M1 → Q' o M1) : jm_J sc Y pc ls st M Q' := by
  intro p l e R s m args below meth c cells slots Z A D aC ad C hI hV
  exact h p l e R s m args below meth c cells slots Z A D aC ad C (fun v M1 H1 locs1 pc1 ls1 ty hq => hI v M1 H1 locs1 pc1 ls1 ty (hQ _ _ hq)) (fun M1 H1 locs1 pc1 ls1 hq => hV M1 H1 locs1 pc1 ls1 (hQ _ _ hq))
def jm_is (o : Option Value) (M1 : jm_M) : Option Value → jm_M → Prop := fun o' M' => o' = o ∧ M' = M1
def jm_Pre (A : Nat → Prop) (D : va_G) (aC ad : Nat → Nat) (M : jm_M) (U : State) : Prop := va_P D classes (jm_ws aC ad M) U.heap ∧ va_K D classes (jm_tys aC) U ∧ va_Z "WeirWords$Kinds" "ABOVE" "[I" (.ref (ad 1001)) A U U.heap ∧ va_T .int (ad 1001) 6 jm_ab A U U.heap
def jm_rm (Y : jm_Y) : Room := { frames := Y.2.2.2.2.1, cells := 0, slots := 0, locals := Y.2.2.2.2.2 }
def jm_wds (Y : jm_Y) : List Cond := Cond.code Y.1 Y.2.1 Y.2.2.1 Y.2.2.2.1 :: jm_tb
theorem jm_met {Y : jm_Y} {M : jm_M} {Q : Option Value → jm_M → Prop} {vs : List Value} (l : Launch) (A : Nat → Prop) (D : va_G) (aC ad : Nat → Nat) (hij : ∀ i j, i < 144 → j < 144 → ad i = ad j → i = j) (hA : ∀ i, i < 144 → A (ad i)) (hp : plainName Y.1.cls = true) (hen : vs.length ≤ Y.2.2.1) (hcat : ∀ v ∈ vs, v.category = 1) (hJ : jm_J none Y 0 (jm_en Y.2.2.1 vs) [] M Q) :
    ((∃ ty, Y.2.2.2.1 = some ty) → Met l Y.1 (jm_wds Y) (jm_rm Y) (va_Pc (vs.map (jm_v ad)) (jm_Pre A D aC ad M)) (va_Qi (fun r M1 => Q (some (.int r)) M1) (fun M1 t => va_P D classes (jm_ws aC ad M1) t.heap) A) 0 0 A) ∧
    (Y.2.2.2.1 = none → Met l Y.1 (jm_wds Y) (jm_rm Y) (va_Pc (vs.map (jm_v ad)) (jm_Pre A D aC ad M)) (va_Qv (fun M1 => Q none M1) (fun M1 t => va_P D classes (jm_ws aC ad M1) t.heap) A) 0 0 A) := by
  constructor
  · rintro ⟨ty, hty⟩
    refine Met.ofW (cc := Y.2.1) (maxL := Y.2.2.1) (ret := Y.2.2.2.1) hp rfl ?_
    intro p e s m args below meth c s₁ B hml hv
    obtain ⟨rfl, hP, hK, hZ, hT⟩ := hv
    have hts := atoms_spec (ws := jm_wds Y) B.pre
    rw [lg_entry_eq]
    have hL := jm_entry ad vs hen hcat
    refine hJ p l e _ s m _ below meth c 0 0 _ A D aC ad ⟨B.exec, B.bytes, hml, findClass_of_methodNamed B.named, fun w hw => hts w (List.mem_cons_of_mem _ hw), hK, hij, hA, hZ, hT, ⟨Nat.le_refl _, Nat.le_refl _⟩, ⟨Nat.le_refl _, Nat.le_refl _⟩, trivial⟩ ?_ ?_ s.heap [] _ hP va_S.rf hL ?_
    · intro v M1 H1 locs1 pc1 ls1 ty1 hq hP1 hS1 hty1 hn d
      exact W.zret B.exec B.bytes (B.returns.trans hty1) hn (fun t ht hW => ⟨⟨v, M1, rfl, hq, by show va_P D classes (jm_ws aC ad M1) t.heap; rw [ht]; exact hP1⟩, hS1.F ht⟩) hS1.2.2 d B.notSynchronized
    · intro M1 H1 locs1 pc1 ls1 hq hP1 hS1 hty1 d
      rw [hty] at hty1
      cases hty1
    · rw [hL.1]; simp [jm_en]; omega
  · intro hty
    refine Met.ofW (cc := Y.2.1) (maxL := Y.2.2.1) (ret := Y.2.2.2.1) hp rfl ?_
    intro p e s m args below meth c s₁ B hml hv
    obtain ⟨rfl, hP, hK, hZ, hT⟩ := hv
    have hts := atoms_spec (ws := jm_wds Y) B.pre
    rw [lg_entry_eq]
    have hL := jm_entry ad vs hen hcat
    refine hJ p l e _ s m _ below meth c 0 0 _ A D aC ad ⟨B.exec, B.bytes, hml, findClass_of_methodNamed B.named, fun w hw => hts w (List.mem_cons_of_mem _ hw), hK, hij, hA, hZ, hT, ⟨Nat.le_refl _, Nat.le_refl _⟩, ⟨Nat.le_refl _, Nat.le_refl _⟩, trivial⟩ ?_ ?_ s.heap [] _ hP va_S.rf hL ?_
    · intro v M1 H1 locs1 pc1 ls1 ty1 hq hP1 hS1 hty1 hn d
      rw [hty] at hty1
      cases hty1
    · intro M1 H1 locs1 pc1 ls1 hq hP1 hS1 hty1 d
      exact W.vret B.exec B.bytes (B.returns.trans hty1) (fun t ht hW => ⟨⟨M1, rfl, hq, by show va_P D classes (jm_ws aC ad M1) t.heap; rw [ht]; exact hP1⟩, hS1.F ht⟩) hS1.2.2 d B.notSynchronized
    · rw [hL.1]; simp [jm_en]; omega
/-- what the tables say of a call -/
def jm_LB (own : String) (idx : Nat) (Y : jm_Y) (n : Nat) : Prop := Cond.methodLink own idx Y.1 ∈ jm_tb ∧ Cond.initialized Y.1.cls ∈ jm_tb ∧ Cond.code Y.1 Y.2.1 Y.2.2.1 Y.2.2.2.1 ∈ jm_tb ∧ plainName Y.1.cls = true ∧ (Y.1.cls ≠ "java/lang/invoke/MethodHandle" ∧ Y.1.cls ≠ "java/lang/invoke/VarHandle") ∧ (parseMethodDescriptor Y.1.desc).map (fun d => d.parameters.length) = some n
def jm_LV (own : String) (idx : Nat) (Y : jm_Y) (n ci : Nat) : Prop := jm_LB own idx Y n ∧ Cond.instanceMethod Y.1 ∈ jm_tb ∧ Cond.selects Y.1.cls Y.1 Y.1 ∈ jm_tb ∧ (classes[ci]?).map (fun q => q.1) = some Y.1.cls
def jm_LS (own : String) (idx : Nat) (Y : jm_Y) (n : Nat) : Prop := jm_LB own idx Y n ∧ Cond.static Y.1 ∈ jm_tb
theorem jm_blind {vs : List Value} {A : Nat → Prop} {D : va_G} {aC ad : Nat → Nat} {M : jm_M} : FrameBlind (va_Pc vs (jm_Pre A D aC ad M)) := by
  intro a U g mk q
  obtain ⟨q0, qP, qK, qZ, qT⟩ := q
  exact ⟨q0, qP, va_K.moved (u := U) (U := U.calling g mk a) (Vm.Alike.refl U.vm) qK, va_Z.moved (u := U) (U := U.calling g mk a) (Vm.Alike.refl U.vm) qZ, va_T.moved (u := U) (U := U.calling g mk a) (Vm.Alike.refl U.vm) qT⟩
theorem jm_callB {Yc : jm_Y} {R : Room} {s : State} {args : Array Value} {own : String} {idx n : Nat} (hts : ∀ w ∈ jm_tb, w.before args s = true) (L : jm_LB own idx Yc n) (hR : Yc.2.2.2.2.1 + 1 ≤ R.frames ∧ 8 + (Yc.2.2.1 + 11) + Yc.2.2.2.2.2 ≤ R.locals) : CallB R s args own idx Yc.1 Yc.2.1 Yc.2.2.1 Yc.2.2.2.1 (jm_wds Yc) (jm_rm Yc) 0 0 n := by
  obtain ⟨l1, l2, l3, l4, l5, l6⟩ := L
  refine ⟨rfl, rfl, hR.1, hR.2, pay_in hts (fun w hw => ?_), List.mem_cons_self, hts _ l3, hts _ l2, l5, fun sig h => ?_, hts _ l1⟩
  · have hm : w ∈ jm_tb := (List.mem_cons.mp hw).elim (fun e => e ▸ l3) (fun h => h)
    exact ⟨hm, jm_tb_good hm⟩
  · rw [h] at l6
    exact (Option.some.inj l6).symm
theorem jm_cat_map (ad : Nat → Nat) (st : List Value) : ((st.map (jm_v ad)).map fun v => v.category) = st.map fun v => v.category := by
  rw [List.map_map]
  exact congrArg (fun f => st.map f) (funext (fun v => jm_v_cat ad v))
theorem jm_pre {A : Nat → Prop} {D : va_G} {aC ad : Nat → Nat} {M : jm_M} {s : State} {H : Heap} {locs : List Loc} (hK : va_K D classes (jm_tys aC) s) (hZ : va_Z "WeirWords$Kinds" "ABOVE" "[I" (.ref (ad 1001)) A s s.heap) (hT : va_T .int (ad 1001) 6 jm_ab A s s.heap) (hP : va_P D classes (jm_ws aC ad M) H) (hS : va_S A s.heap H locs) (U : State) (hU : U.heap = H) (hW : s.WarmedH U.vm) : jm_Pre A D aC ad M U :=
  ⟨by rw [hU]; exact hP, va_K.moved hW.alike hK, by rw [hU]; exact va_Z.moved hW.alike (hZ.kept hS.2.1), by rw [hU]; exact va_T.moved hW.alike (hT.kept hS.2.1)⟩
theorem jm_cVi {sc : jm_S} {Y Yc : jm_Y} {pc idx n ci nf b : Nat} {ls : jm_Ls} {st As rest : List Value} {M : jm_M} {Q Qc : Option Value → jm_M → Prop} (d : decode Y.2.1 pc = .ok (.invokevirtual idx, 3)) (L : jm_LV Y.1.cls idx Yc n ci) (hty : ∃ ty, Yc.2.2.2.1 = some ty) (hob : jm_ob b = some (ci, nf)) (hst : st = As.reverse ++ .ref b :: rest) (hn : As.length = n) (hcat : ∀ v ∈ As, v.category = 1) (hen : As.length + 1 ≤ Yc.2.2.1) (hw : (rest.map fun v => v.category).sum ≤ 8) (hR : Yc.2.2.2.2.1 + 1 ≤ Y.2.2.2.2.1 ∧ 8 + (Yc.2.2.1 + 11) + Yc.2.2.2.2.2 ≤ Y.2.2.2.2.2) (hc : jm_J none Yc 0 (jm_en Yc.2.2.1 (.ref b :: As)) [] M Qc) (kk : ∀ (r : Int32) (M1 : jm_M), Qc (some (.int r)) M1 → jm_J sc Y (pc + 3) ls (.int r :: rest) M1 Q) : jm_J sc Y pc ls st M Q := by
  intro p l e R s m args below meth c cells slots Z A D aC ad C hI hV H locs lsA hP hS hL hz
  obtain ⟨hx, hb, hml, hown, hts, hK, hij, hA, hZ, hT, hRm, hC, hsc⟩ := id C
  subst hst
  obtain ⟨L1, L2, L3, L4⟩ := L
  have hM := (jm_met l A D aC ad hij hA L1.2.2.2.1 (vs := .ref b :: As) (by simpa [Nat.add_comm] using hen) (fun v hv => (List.mem_cons.mp hv).elim (fun e => by rw [e]; rfl) (hcat v)) hc).1 hty
  obtain ⟨qc, hqc, hqn⟩ : ∃ qc, classes[ci]? = some qc ∧ qc.1 = Yc.1.cls := by
    cases hx : classes[ci]? with
    | none => rw [hx] at L4; cases L4
    | some qc => rw [hx] at L4; exact ⟨qc, rfl, Option.some.inj L4⟩
  have hrecv := va_recv (a := ad b) (q0 := b) (fs := jm_fs ad M b nf) hK hP hqc (by rw [jm_at (jm_ob_lt hob), jm_e_ob hob])
  rw [hqn] at hrecv
  refine va_calli (A0 := A) (A1 := A) (va_runV (As := As.map (jm_v ad)) (rest := rest.map (jm_v ad)) (nL := Y.2.2.1) (n := n) (b := ad b) ⟨hx, hb, hml, hown, hts⟩ hM ⟨jm_callB hts L1 ⟨Nat.le_trans hR.1 hRm.1, Nat.le_trans hR.2 hRm.2⟩, hts _ L2, hts _ L3⟩ ⟨jm_blind, hrecv, fun U hU hW => ⟨rfl, jm_pre hK hZ hT hP hS U hU hW⟩⟩ rfl (by rw [List.length_map]; exact hn) hz (by show List.map _ _ = _; rw [List.map_append, List.map_reverse]; rfl) (lv_room (by rw [jm_cat_map]; exact hw)) d ⟨hC.1, hC.2⟩) hS (fun q _ h => h) (fun q h => h) (fun r M1 t H1 locs1 ht hvm hw1 hB hz1 hk1 hS1 => ?_)
  rw [ht] at hB
  exact kk r M1 hw1 p l e R s m args below meth c cells slots Z A D aC ad C hI hV H1 locs1 lsA hB hS1 hL hz
theorem jm_cSi {sc : jm_S} {Y Yc : jm_Y} {pc idx n ci nf b : Nat} {ls : jm_Ls} {st As rest : List Value} {M : jm_M} {Q Qc : Option Value → jm_M → Prop} (d : decode Y.2.1 pc = .ok (.invokestatic idx, 3)) (L : jm_LS Y.1.cls idx Yc n) (hty : ∃ ty, Yc.2.2.2.1 = some ty) (hst : st = As.reverse ++ rest) (hn : As.length = n) (hcat : ∀ v ∈ As, v.category = 1) (hen : As.length + 0 ≤ Yc.2.2.1) (hw : (rest.map fun v => v.category).sum ≤ 8) (hR : Yc.2.2.2.2.1 + 1 ≤ Y.2.2.2.2.1 ∧ 8 + (Yc.2.2.1 + 11) + Yc.2.2.2.2.2 ≤ Y.2.2.2.2.2) (hc : jm_J none Yc 0 (jm_en Yc.2.2.1 As) [] M Qc) (kk : ∀ (r : Int32) (M1 : jm_M), Qc (some (.int r)) M1 → jm_J sc Y (pc + 3) ls (.int r :: rest) M1 Q) : jm_J sc Y pc ls st M Q := by
  intro p l e R s m args below meth c cells slots Z A D aC ad C hI hV H locs lsA hP hS hL hz
  obtain ⟨hx, hb, hml, hown, hts, hK, hij, hA, hZ, hT, hRm, hC, hsc⟩ := id C
  subst hst
  obtain ⟨L1, L2⟩ := L
  have hM := (jm_met l A D aC ad hij hA L1.2.2.2.1 (vs := As) hen hcat hc).1 hty
  refine va_calli (A0 := A) (A1 := A) (va_runS (As := As.map (jm_v ad)) (rest := rest.map (jm_v ad)) (nL := Y.2.2.1) (n := n) ⟨hx, hb, hml, hown, hts⟩ hM ⟨jm_callB hts L1 ⟨Nat.le_trans hR.1 hRm.1, Nat.le_trans hR.2 hRm.2⟩, hts _ L2⟩ ⟨jm_blind, fun U hU hW => ⟨rfl, jm_pre hK hZ hT hP hS U hU hW⟩⟩ rfl (by rw [List.length_map]; exact hn) hz (by show List.map _ _ = _; rw [List.map_append, List.map_reverse]) (lv_room (by rw [jm_cat_map]; exact hw)) d ⟨hC.1, hC.2⟩) hS (fun q _ h => h) (fun q h => h) (fun r M1 t H1 locs1 ht hvm hw1 hB hz1 hk1 hS1 => ?_)
  rw [ht] at hB
  exact kk r M1 hw1 p l e R s m args below meth c cells slots Z A D aC ad C hI hV H1 locs1 lsA hB hS1 hL hz
theorem jm_cVv {sc : jm_S} {Y Yc : jm_Y} {pc idx n ci nf b : Nat} {ls : jm_Ls} {st As rest : List Value} {M : jm_M} {Q Qc : Option Value → jm_M → Prop} (d : decode Y.2.1 pc = .ok (.invokevirtual idx, 3)) (L : jm_LV Y.1.cls idx Yc n ci) (hty : Yc.2.2.2.1 = none) (hob : jm_ob b = some (ci, nf)) (hst : st = As.reverse ++ .ref b :: rest) (hn : As.length = n) (hcat : ∀ v ∈ As, v.category = 1) (hen : As.length + 1 ≤ Yc.2.2.1) (hw : (rest.map fun v => v.category).sum ≤ 8) (hR : Yc.2.2.2.2.1 + 1 ≤ Y.2.2.2.2.1 ∧ 8 + (Yc.2.2.1 + 11) + Yc.2.2.2.2.2 ≤ Y.2.2.2.2.2) (hc : jm_J none Yc 0 (jm_en Yc.2.2.1 (.ref b :: As)) [] M Qc) (kk : ∀ (M1 : jm_M), Qc none M1 → jm_J sc Y (pc + 3) ls rest M1 Q) : jm_J sc Y pc ls st M Q := by
  intro p l e R s m args below meth c cells slots Z A D aC ad C hI hV H locs lsA hP hS hL hz
  obtain ⟨hx, hb, hml, hown, hts, hK, hij, hA, hZ, hT, hRm, hC, hsc⟩ := id C
  subst hst
  obtain ⟨L1, L2, L3, L4⟩ := L
  have hM := (jm_met l A D aC ad hij hA L1.2.2.2.1 (vs := .ref b :: As) (by simpa [Nat.add_comm] using hen) (fun v hv => (List.mem_cons.mp hv).elim (fun e => by rw [e]; rfl) (hcat v)) hc).2 hty
  obtain ⟨qc, hqc, hqn⟩ : ∃ qc, classes[ci]? = some qc ∧ qc.1 = Yc.1.cls := by
    cases hx : classes[ci]? with
    | none => rw [hx] at L4; cases L4
    | some qc => rw [hx] at L4; exact ⟨qc, rfl, Option.some.inj L4⟩
  have hrecv := va_recv (a := ad b) (q0 := b) (fs := jm_fs ad M b nf) hK hP hqc (by rw [jm_at (jm_ob_lt hob), jm_e_ob hob])
  rw [hqn] at hrecv
  refine va_callv (A0 := A) (A1 := A) (va_runV (As := As.map (jm_v ad)) (rest := rest.map (jm_v ad)) (nL := Y.2.2.1) (n := n) (b := ad b) ⟨hx, hb, hml, hown, hts⟩ hM ⟨jm_callB hts L1 ⟨Nat.le_trans hR.1 hRm.1, Nat.le_trans hR.2 hRm.2⟩, hts _ L2, hts _ L3⟩ ⟨jm_blind, hrecv, fun U hU hW => ⟨rfl, jm_pre hK hZ hT hP hS U hU hW⟩⟩ rfl (by rw [List.length_map]; exact hn) hz (by show List.map _ _ = _; rw [List.map_append, List.map_reverse]; rfl) (lv_room (by rw [jm_cat_map]; exact hw)) d ⟨hC.1, hC.2⟩) hS (fun q _ h => h) (fun q h => h) (fun M1 t H1 locs1 ht hvm hw1 hB hz1 hk1 hS1 => ?_)
  rw [ht] at hB
  exact kk M1 hw1 p l e R s m args below meth c cells slots Z A D aC ad C hI hV H1 locs1 lsA hB hS1 hL hz
theorem jm_cSv {sc : jm_S} {Y Yc : jm_Y} {pc idx n ci nf b : Nat} {ls : jm_Ls} {st As rest : List Value} {M : jm_M} {Q Qc : Option Value → jm_M → Prop} (d : decode Y.2.1 pc = .ok (.invokestatic idx, 3)) (L : jm_LS Y.1.cls idx Yc n) (hty : Yc.2.2.2.1 = none) (hst : st = As.reverse ++ rest) (hn : As.length = n) (hcat : ∀ v ∈ As, v.category = 1) (hen : As.length + 0 ≤ Yc.2.2.1) (hw : (rest.map fun v => v.category).sum ≤ 8) (hR : Yc.2.2.2.2.1 + 1 ≤ Y.2.2.2.2.1 ∧ 8 + (Yc.2.2.1 + 11) + Yc.2.2.2.2.2 ≤ Y.2.2.2.2.2) (hc : jm_J none Yc 0 (jm_en Yc.2.2.1 As) [] M Qc) (kk : ∀ (M1 : jm_M), Qc none M1 → jm_J sc Y (pc + 3) ls rest M1 Q) : jm_J sc Y pc ls st M Q := by
  intro p l e R s m args below meth c cells slots Z A D aC ad C hI hV H locs lsA hP hS hL hz
  obtain ⟨hx, hb, hml, hown, hts, hK, hij, hA, hZ, hT, hRm, hC, hsc⟩ := id C
  subst hst
  obtain ⟨L1, L2⟩ := L
  have hM := (jm_met l A D aC ad hij hA L1.2.2.2.1 (vs := As) hen hcat hc).2 hty
  refine va_callv (A0 := A) (A1 := A) (va_runS (As := As.map (jm_v ad)) (rest := rest.map (jm_v ad)) (nL := Y.2.2.1) (n := n) ⟨hx, hb, hml, hown, hts⟩ hM ⟨jm_callB hts L1 ⟨Nat.le_trans hR.1 hRm.1, Nat.le_trans hR.2 hRm.2⟩, hts _ L2⟩ ⟨jm_blind, fun U hU hW => ⟨rfl, jm_pre hK hZ hT hP hS U hU hW⟩⟩ rfl (by rw [List.length_map]; exact hn) hz (by show List.map _ _ = _; rw [List.map_append, List.map_reverse]) (lv_room (by rw [jm_cat_map]; exact hw)) d ⟨hC.1, hC.2⟩) hS (fun q _ h => h) (fun q h => h) (fun M1 t H1 locs1 ht hvm hw1 hB hz1 hk1 hS1 => ?_)
  rw [ht] at hB
  exact kk M1 hw1 p l e R s m args below meth c cells slots Z A D aC ad C hI hV H1 locs1 lsA hB hS1 hL hz
end
