section
-- ===== PART A: goes FIRST, ahead of the names: the tables' words, and 'selects' of the private methods out of them =====
/-- a private method of a class that the tables say can be made, by its rows of tables_1 -/
def lw_okq (q : MethodName × Nat) : Prop := (q.1.cls ≠ "java/lang/invoke/MethodHandle" ∧ q.1.cls ≠ "java/lang/invoke/VarHandle") ∧ Cond.instantiable q.1.cls q.2 ∈ tables_1 ∧ Cond.privateMethod q.1 ∈ tables_1 ∧ Cond.instanceMethod q.1 ∈ tables_1
theorem lw_p0 : lw_okq (⟨"WeirWords", "finding", "(I)I"⟩, 10) := ⟨⟨by decide +kernel, by decide +kernel⟩, List.mem_of_getElem? (i := 13) (by decide +kernel), List.mem_of_getElem? (i := 183) (by decide +kernel), List.mem_of_getElem? (i := 184) (by decide +kernel)⟩
theorem lw_p1 : lw_okq (⟨"WeirWords", "unfound", "(I)I"⟩, 10) := ⟨⟨by decide +kernel, by decide +kernel⟩, List.mem_of_getElem? (i := 13) (by decide +kernel), List.mem_of_getElem? (i := 192) (by decide +kernel), List.mem_of_getElem? (i := 193) (by decide +kernel)⟩
theorem lw_p2 : lw_okq (⟨"WeirWords$Tape", "readLaw", "(LWeirWords$River;)Z"⟩, 4) := ⟨⟨by decide +kernel, by decide +kernel⟩, List.mem_of_getElem? (i := 44) (by decide +kernel), List.mem_of_getElem? (i := 263) (by decide +kernel), List.mem_of_getElem? (i := 264) (by decide +kernel)⟩
theorem lw_p3 : lw_okq (⟨"WeirWords$Tape", "passes", "(C)Z"⟩, 4) := ⟨⟨by decide +kernel, by decide +kernel⟩, List.mem_of_getElem? (i := 44) (by decide +kernel), List.mem_of_getElem? (i := 267) (by decide +kernel), List.mem_of_getElem? (i := 268) (by decide +kernel)⟩
theorem lw_p4 : lw_okq (⟨"WeirWords$Tape", "isAt", "(C)Z"⟩, 4) := ⟨⟨by decide +kernel, by decide +kernel⟩, List.mem_of_getElem? (i := 44) (by decide +kernel), List.mem_of_getElem? (i := 271) (by decide +kernel), List.mem_of_getElem? (i := 272) (by decide +kernel)⟩
theorem lw_p5 : lw_okq (⟨"WeirWords$Tape", "faulty", "(I)Z"⟩, 4) := ⟨⟨by decide +kernel, by decide +kernel⟩, List.mem_of_getElem? (i := 44) (by decide +kernel), List.mem_of_getElem? (i := 275) (by decide +kernel), List.mem_of_getElem? (i := 276) (by decide +kernel)⟩
theorem lw_p6 : lw_okq (⟨"WeirWords$Tape", "readNumber", "(II)I"⟩, 4) := ⟨⟨by decide +kernel, by decide +kernel⟩, List.mem_of_getElem? (i := 44) (by decide +kernel), List.mem_of_getElem? (i := 279) (by decide +kernel), List.mem_of_getElem? (i := 280) (by decide +kernel)⟩
theorem lw_p7 : lw_okq (⟨"WeirWords$Tape", "figuresFrom", "(I)I"⟩, 4) := ⟨⟨by decide +kernel, by decide +kernel⟩, List.mem_of_getElem? (i := 44) (by decide +kernel), List.mem_of_getElem? (i := 283) (by decide +kernel), List.mem_of_getElem? (i := 284) (by decide +kernel)⟩
theorem lw_p8 : lw_okq (⟨"WeirWords$Tape", "readCells", "(LWeirWords$River;)Z"⟩, 4) := ⟨⟨by decide +kernel, by decide +kernel⟩, List.mem_of_getElem? (i := 44) (by decide +kernel), List.mem_of_getElem? (i := 287) (by decide +kernel), List.mem_of_getElem? (i := 288) (by decide +kernel)⟩
theorem lw_p9 : lw_okq (⟨"WeirWords$Tape", "readCell", "(LWeirWords$River;)Z"⟩, 4) := ⟨⟨by decide +kernel, by decide +kernel⟩, List.mem_of_getElem? (i := 44) (by decide +kernel), List.mem_of_getElem? (i := 291) (by decide +kernel), List.mem_of_getElem? (i := 292) (by decide +kernel)⟩
theorem lw_p10 : lw_okq (⟨"WeirWords$Tape", "readWords", "(LWeirWords$River;)Z"⟩, 4) := ⟨⟨by decide +kernel, by decide +kernel⟩, List.mem_of_getElem? (i := 44) (by decide +kernel), List.mem_of_getElem? (i := 295) (by decide +kernel), List.mem_of_getElem? (i := 296) (by decide +kernel)⟩
theorem lw_p11 : lw_okq (⟨"WeirWords$Tape", "readWord", "(LWeirWords$River;)Z"⟩, 4) := ⟨⟨by decide +kernel, by decide +kernel⟩, List.mem_of_getElem? (i := 44) (by decide +kernel), List.mem_of_getElem? (i := 299) (by decide +kernel), List.mem_of_getElem? (i := 300) (by decide +kernel)⟩
theorem lw_p12 : lw_okq (⟨"WeirWords", "forgetActs", "()V"⟩, 10) := ⟨⟨by decide +kernel, by decide +kernel⟩, List.mem_of_getElem? (i := 13) (by decide +kernel), List.mem_of_getElem? (i := 319) (by decide +kernel), List.mem_of_getElem? (i := 320) (by decide +kernel)⟩
theorem lw_p13 : lw_okq (⟨"WeirWords", "hasRiver", "()Z"⟩, 10) := ⟨⟨by decide +kernel, by decide +kernel⟩, List.mem_of_getElem? (i := 13) (by decide +kernel), List.mem_of_getElem? (i := 331) (by decide +kernel), List.mem_of_getElem? (i := 332) (by decide +kernel)⟩
theorem lw_p14 : lw_okq (⟨"WeirWords", "keepAct", "()V"⟩, 10) := ⟨⟨by decide +kernel, by decide +kernel⟩, List.mem_of_getElem? (i := 13) (by decide +kernel), List.mem_of_getElem? (i := 336) (by decide +kernel), List.mem_of_getElem? (i := 337) (by decide +kernel)⟩
theorem lw_p15 : lw_okq (⟨"WeirWords$River", "climbed", "(IIZ)I"⟩, 8) := ⟨⟨by decide +kernel, by decide +kernel⟩, List.mem_of_getElem? (i := 92) (by decide +kernel), List.mem_of_getElem? (i := 366) (by decide +kernel), List.mem_of_getElem? (i := 367) (by decide +kernel)⟩
def lw_privs_1 : List (MethodName × Nat) := [(⟨"WeirWords", "finding", "(I)I"⟩, 10), (⟨"WeirWords", "unfound", "(I)I"⟩, 10), (⟨"WeirWords$Tape", "readLaw", "(LWeirWords$River;)Z"⟩, 4), (⟨"WeirWords$Tape", "passes", "(C)Z"⟩, 4), (⟨"WeirWords$Tape", "isAt", "(C)Z"⟩, 4), (⟨"WeirWords$Tape", "faulty", "(I)Z"⟩, 4), (⟨"WeirWords$Tape", "readNumber", "(II)I"⟩, 4), (⟨"WeirWords$Tape", "figuresFrom", "(I)I"⟩, 4), (⟨"WeirWords$Tape", "readCells", "(LWeirWords$River;)Z"⟩, 4), (⟨"WeirWords$Tape", "readCell", "(LWeirWords$River;)Z"⟩, 4), (⟨"WeirWords$Tape", "readWords", "(LWeirWords$River;)Z"⟩, 4), (⟨"WeirWords$Tape", "readWord", "(LWeirWords$River;)Z"⟩, 4), (⟨"WeirWords", "forgetActs", "()V"⟩, 10), (⟨"WeirWords", "hasRiver", "()Z"⟩, 10), (⟨"WeirWords", "keepAct", "()V"⟩, 10), (⟨"WeirWords$River", "climbed", "(IIZ)I"⟩, 8)]
theorem lw_r1 : ∀ q ∈ lw_privs_1, lw_okq q := List.forall_mem_cons.mpr ⟨lw_p0, List.forall_mem_cons.mpr ⟨lw_p1, List.forall_mem_cons.mpr ⟨lw_p2, List.forall_mem_cons.mpr ⟨lw_p3, List.forall_mem_cons.mpr ⟨lw_p4, List.forall_mem_cons.mpr ⟨lw_p5, List.forall_mem_cons.mpr ⟨lw_p6, List.forall_mem_cons.mpr ⟨lw_p7, List.forall_mem_cons.mpr ⟨lw_p8, List.forall_mem_cons.mpr ⟨lw_p9, List.forall_mem_cons.mpr ⟨lw_p10, List.forall_mem_cons.mpr ⟨lw_p11, List.forall_mem_cons.mpr ⟨lw_p12, List.forall_mem_cons.mpr ⟨lw_p13, List.forall_mem_cons.mpr ⟨lw_p14, List.forall_mem_cons.mpr ⟨lw_p15, fun _ h => absurd h List.not_mem_nil⟩⟩⟩⟩⟩⟩⟩⟩⟩⟩⟩⟩⟩⟩⟩⟩
theorem lw_p16 : lw_okq (⟨"WeirWords$River", "drifted", "(IIZ)I"⟩, 8) := ⟨⟨by decide +kernel, by decide +kernel⟩, List.mem_of_getElem? (i := 92) (by decide +kernel), List.mem_of_getElem? (i := 378) (by decide +kernel), List.mem_of_getElem? (i := 379) (by decide +kernel)⟩
theorem lw_p17 : lw_okq (⟨"WeirWords", "fewestSwift", "(I)I"⟩, 10) := ⟨⟨by decide +kernel, by decide +kernel⟩, List.mem_of_getElem? (i := 13) (by decide +kernel), List.mem_of_getElem? (i := 474) (by decide +kernel), List.mem_of_getElem? (i := 475) (by decide +kernel)⟩
theorem lw_p18 : lw_okq (⟨"WeirWords", "fittingSorts", "(I[III)I"⟩, 10) := ⟨⟨by decide +kernel, by decide +kernel⟩, List.mem_of_getElem? (i := 13) (by decide +kernel), List.mem_of_getElem? (i := 508) (by decide +kernel), List.mem_of_getElem? (i := 509) (by decide +kernel)⟩
theorem lw_p19 : lw_okq (⟨"WeirWords", "fittingStarts", "(I[III)I"⟩, 10) := ⟨⟨by decide +kernel, by decide +kernel⟩, List.mem_of_getElem? (i := 13) (by decide +kernel), List.mem_of_getElem? (i := 516) (by decide +kernel), List.mem_of_getElem? (i := 517) (by decide +kernel)⟩
theorem lw_p20 : lw_okq (⟨"WeirWords", "fittingRains", "(I[III)I"⟩, 10) := ⟨⟨by decide +kernel, by decide +kernel⟩, List.mem_of_getElem? (i := 13) (by decide +kernel), List.mem_of_getElem? (i := 520) (by decide +kernel), List.mem_of_getElem? (i := 521) (by decide +kernel)⟩
theorem lw_p21 : lw_okq (⟨"WeirWords", "fittingSizes", "(I[III)I"⟩, 10) := ⟨⟨by decide +kernel, by decide +kernel⟩, List.mem_of_getElem? (i := 13) (by decide +kernel), List.mem_of_getElem? (i := 524) (by decide +kernel), List.mem_of_getElem? (i := 525) (by decide +kernel)⟩
theorem lw_p22 : lw_okq (⟨"WeirWords", "fitsSize", "(II[III)Z"⟩, 10) := ⟨⟨by decide +kernel, by decide +kernel⟩, List.mem_of_getElem? (i := 13) (by decide +kernel), List.mem_of_getElem? (i := 528) (by decide +kernel), List.mem_of_getElem? (i := 529) (by decide +kernel)⟩
theorem lw_p23 : lw_okq (⟨"WeirWords", "leastFittingSize", "(I[III)I"⟩, 10) := ⟨⟨by decide +kernel, by decide +kernel⟩, List.mem_of_getElem? (i := 13) (by decide +kernel), List.mem_of_getElem? (i := 532) (by decide +kernel), List.mem_of_getElem? (i := 533) (by decide +kernel)⟩
theorem lw_p24 : lw_okq (⟨"WeirWords$Asks", "stickSize", "()I"⟩, 6) := ⟨⟨by decide +kernel, by decide +kernel⟩, List.mem_of_getElem? (i := 66) (by decide +kernel), List.mem_of_getElem? (i := 593) (by decide +kernel), List.mem_of_getElem? (i := 594) (by decide +kernel)⟩
theorem lw_p25 : lw_okq (⟨"WeirWords$Asks", "leave", "(I)V"⟩, 6) := ⟨⟨by decide +kernel, by decide +kernel⟩, List.mem_of_getElem? (i := 66) (by decide +kernel), List.mem_of_getElem? (i := 597) (by decide +kernel), List.mem_of_getElem? (i := 598) (by decide +kernel)⟩
theorem lw_p26 : lw_okq (⟨"WeirWords$Asks", "lentSize", "()I"⟩, 6) := ⟨⟨by decide +kernel, by decide +kernel⟩, List.mem_of_getElem? (i := 66) (by decide +kernel), List.mem_of_getElem? (i := 601) (by decide +kernel), List.mem_of_getElem? (i := 602) (by decide +kernel)⟩
theorem lw_p27 : lw_okq (⟨"WeirWords$Asks", "anyStickMark", "()I"⟩, 6) := ⟨⟨by decide +kernel, by decide +kernel⟩, List.mem_of_getElem? (i := 66) (by decide +kernel), List.mem_of_getElem? (i := 605) (by decide +kernel), List.mem_of_getElem? (i := 606) (by decide +kernel)⟩
theorem lw_p28 : lw_okq (⟨"WeirWords$Asks", "stickMark", "()I"⟩, 6) := ⟨⟨by decide +kernel, by decide +kernel⟩, List.mem_of_getElem? (i := 66) (by decide +kernel), List.mem_of_getElem? (i := 609) (by decide +kernel), List.mem_of_getElem? (i := 610) (by decide +kernel)⟩
theorem lw_p29 : lw_okq (⟨"WeirWords$Asks", "lentMark", "()I"⟩, 6) := ⟨⟨by decide +kernel, by decide +kernel⟩, List.mem_of_getElem? (i := 66) (by decide +kernel), List.mem_of_getElem? (i := 613) (by decide +kernel), List.mem_of_getElem? (i := 614) (by decide +kernel)⟩
theorem lw_p30 : lw_okq (⟨"WeirWords$Asks", "salmonOrEelSize", "()I"⟩, 6) := ⟨⟨by decide +kernel, by decide +kernel⟩, List.mem_of_getElem? (i := 66) (by decide +kernel), List.mem_of_getElem? (i := 617) (by decide +kernel), List.mem_of_getElem? (i := 618) (by decide +kernel)⟩
theorem lw_p31 : lw_okq (⟨"WeirWords$Asks", "salmonSize", "()I"⟩, 6) := ⟨⟨by decide +kernel, by decide +kernel⟩, List.mem_of_getElem? (i := 66) (by decide +kernel), List.mem_of_getElem? (i := 621) (by decide +kernel), List.mem_of_getElem? (i := 622) (by decide +kernel)⟩
def lw_privs_2 : List (MethodName × Nat) := [(⟨"WeirWords$River", "drifted", "(IIZ)I"⟩, 8), (⟨"WeirWords", "fewestSwift", "(I)I"⟩, 10), (⟨"WeirWords", "fittingSorts", "(I[III)I"⟩, 10), (⟨"WeirWords", "fittingStarts", "(I[III)I"⟩, 10), (⟨"WeirWords", "fittingRains", "(I[III)I"⟩, 10), (⟨"WeirWords", "fittingSizes", "(I[III)I"⟩, 10), (⟨"WeirWords", "fitsSize", "(II[III)Z"⟩, 10), (⟨"WeirWords", "leastFittingSize", "(I[III)I"⟩, 10), (⟨"WeirWords$Asks", "stickSize", "()I"⟩, 6), (⟨"WeirWords$Asks", "leave", "(I)V"⟩, 6), (⟨"WeirWords$Asks", "lentSize", "()I"⟩, 6), (⟨"WeirWords$Asks", "anyStickMark", "()I"⟩, 6), (⟨"WeirWords$Asks", "stickMark", "()I"⟩, 6), (⟨"WeirWords$Asks", "lentMark", "()I"⟩, 6), (⟨"WeirWords$Asks", "salmonOrEelSize", "()I"⟩, 6), (⟨"WeirWords$Asks", "salmonSize", "()I"⟩, 6)]
theorem lw_r2 : ∀ q ∈ lw_privs_2, lw_okq q := List.forall_mem_cons.mpr ⟨lw_p16, List.forall_mem_cons.mpr ⟨lw_p17, List.forall_mem_cons.mpr ⟨lw_p18, List.forall_mem_cons.mpr ⟨lw_p19, List.forall_mem_cons.mpr ⟨lw_p20, List.forall_mem_cons.mpr ⟨lw_p21, List.forall_mem_cons.mpr ⟨lw_p22, List.forall_mem_cons.mpr ⟨lw_p23, List.forall_mem_cons.mpr ⟨lw_p24, List.forall_mem_cons.mpr ⟨lw_p25, List.forall_mem_cons.mpr ⟨lw_p26, List.forall_mem_cons.mpr ⟨lw_p27, List.forall_mem_cons.mpr ⟨lw_p28, List.forall_mem_cons.mpr ⟨lw_p29, List.forall_mem_cons.mpr ⟨lw_p30, List.forall_mem_cons.mpr ⟨lw_p31, fun _ h => absurd h List.not_mem_nil⟩⟩⟩⟩⟩⟩⟩⟩⟩⟩⟩⟩⟩⟩⟩⟩
theorem lw_p32 : lw_okq (⟨"WeirWords$Asks", "salmonMark", "()I"⟩, 6) := ⟨⟨by decide +kernel, by decide +kernel⟩, List.mem_of_getElem? (i := 66) (by decide +kernel), List.mem_of_getElem? (i := 629) (by decide +kernel), List.mem_of_getElem? (i := 630) (by decide +kernel)⟩
theorem lw_p33 : lw_okq (⟨"WeirWordsModel", "found", "(I)I"⟩, 22) := ⟨⟨by decide +kernel, by decide +kernel⟩, List.mem_of_getElem? (i := 654) (by decide +kernel), List.mem_of_getElem? (i := 740) (by decide +kernel), List.mem_of_getElem? (i := 741) (by decide +kernel)⟩
theorem lw_p34 : lw_okq (⟨"WeirWordsModel", "well", "(I)I"⟩, 22) := ⟨⟨by decide +kernel, by decide +kernel⟩, List.mem_of_getElem? (i := 654) (by decide +kernel), List.mem_of_getElem? (i := 745) (by decide +kernel), List.mem_of_getElem? (i := 746) (by decide +kernel)⟩
theorem lw_p35 : lw_okq (⟨"WeirWordsModel", "isMissing", "(I)Z"⟩, 22) := ⟨⟨by decide +kernel, by decide +kernel⟩, List.mem_of_getElem? (i := 654) (by decide +kernel), List.mem_of_getElem? (i := 753) (by decide +kernel), List.mem_of_getElem? (i := 754) (by decide +kernel)⟩
theorem lw_p36 : lw_okq (⟨"WeirWordsModel", "isPart", "(III)Z"⟩, 22) := ⟨⟨by decide +kernel, by decide +kernel⟩, List.mem_of_getElem? (i := 654) (by decide +kernel), List.mem_of_getElem? (i := 764) (by decide +kernel), List.mem_of_getElem? (i := 765) (by decide +kernel)⟩
theorem lw_p37 : lw_okq (⟨"WeirWordsModel", "advances", "()V"⟩, 22) := ⟨⟨by decide +kernel, by decide +kernel⟩, List.mem_of_getElem? (i := 654) (by decide +kernel), List.mem_of_getElem? (i := 781) (by decide +kernel), List.mem_of_getElem? (i := 782) (by decide +kernel)⟩
theorem lw_p38 : lw_okq (⟨"WeirWordsModel", "byteAt", "(I)I"⟩, 22) := ⟨⟨by decide +kernel, by decide +kernel⟩, List.mem_of_getElem? (i := 654) (by decide +kernel), List.mem_of_getElem? (i := 785) (by decide +kernel), List.mem_of_getElem? (i := 786) (by decide +kernel)⟩
theorem lw_p39 : lw_okq (⟨"WeirWordsModel", "takes", "(ZI)I"⟩, 22) := ⟨⟨by decide +kernel, by decide +kernel⟩, List.mem_of_getElem? (i := 654) (by decide +kernel), List.mem_of_getElem? (i := 789) (by decide +kernel), List.mem_of_getElem? (i := 790) (by decide +kernel)⟩
theorem lw_p40 : lw_okq (⟨"WeirWordsModel", "isWell", "()Z"⟩, 22) := ⟨⟨by decide +kernel, by decide +kernel⟩, List.mem_of_getElem? (i := 654) (by decide +kernel), List.mem_of_getElem? (i := 793) (by decide +kernel), List.mem_of_getElem? (i := 794) (by decide +kernel)⟩
theorem lw_p41 : lw_okq (⟨"WeirWordsModel", "figure", "(II)I"⟩, 22) := ⟨⟨by decide +kernel, by decide +kernel⟩, List.mem_of_getElem? (i := 654) (by decide +kernel), List.mem_of_getElem? (i := 797) (by decide +kernel), List.mem_of_getElem? (i := 798) (by decide +kernel)⟩
theorem lw_p42 : lw_okq (⟨"WeirWordsModel", "follows", "(II)I"⟩, 22) := ⟨⟨by decide +kernel, by decide +kernel⟩, List.mem_of_getElem? (i := 654) (by decide +kernel), List.mem_of_getElem? (i := 801) (by decide +kernel), List.mem_of_getElem? (i := 802) (by decide +kernel)⟩
theorem lw_p43 : lw_okq (⟨"WeirWordsModel", "readsCell", "()V"⟩, 22) := ⟨⟨by decide +kernel, by decide +kernel⟩, List.mem_of_getElem? (i := 654) (by decide +kernel), List.mem_of_getElem? (i := 805) (by decide +kernel), List.mem_of_getElem? (i := 806) (by decide +kernel)⟩
theorem lw_p44 : lw_okq (⟨"WeirWordsModel", "must", "(Z)V"⟩, 22) := ⟨⟨by decide +kernel, by decide +kernel⟩, List.mem_of_getElem? (i := 654) (by decide +kernel), List.mem_of_getElem? (i := 809) (by decide +kernel), List.mem_of_getElem? (i := 810) (by decide +kernel)⟩
theorem lw_p45 : lw_okq (⟨"WeirWordsModel", "readsWord", "()V"⟩, 22) := ⟨⟨by decide +kernel, by decide +kernel⟩, List.mem_of_getElem? (i := 654) (by decide +kernel), List.mem_of_getElem? (i := 816) (by decide +kernel), List.mem_of_getElem? (i := 817) (by decide +kernel)⟩
theorem lw_p46 : lw_okq (⟨"WeirWordsModel", "isRiver", "()Z"⟩, 22) := ⟨⟨by decide +kernel, by decide +kernel⟩, List.mem_of_getElem? (i := 654) (by decide +kernel), List.mem_of_getElem? (i := 832) (by decide +kernel), List.mem_of_getElem? (i := 833) (by decide +kernel)⟩
theorem lw_p47 : lw_okq (⟨"WeirWordsModel", "notes", "()V"⟩, 22) := ⟨⟨by decide +kernel, by decide +kernel⟩, List.mem_of_getElem? (i := 654) (by decide +kernel), List.mem_of_getElem? (i := 837) (by decide +kernel), List.mem_of_getElem? (i := 838) (by decide +kernel)⟩
def lw_privs_3 : List (MethodName × Nat) := [(⟨"WeirWords$Asks", "salmonMark", "()I"⟩, 6), (⟨"WeirWordsModel", "found", "(I)I"⟩, 22), (⟨"WeirWordsModel", "well", "(I)I"⟩, 22), (⟨"WeirWordsModel", "isMissing", "(I)Z"⟩, 22), (⟨"WeirWordsModel", "isPart", "(III)Z"⟩, 22), (⟨"WeirWordsModel", "advances", "()V"⟩, 22), (⟨"WeirWordsModel", "byteAt", "(I)I"⟩, 22), (⟨"WeirWordsModel", "takes", "(ZI)I"⟩, 22), (⟨"WeirWordsModel", "isWell", "()Z"⟩, 22), (⟨"WeirWordsModel", "figure", "(II)I"⟩, 22), (⟨"WeirWordsModel", "follows", "(II)I"⟩, 22), (⟨"WeirWordsModel", "readsCell", "()V"⟩, 22), (⟨"WeirWordsModel", "must", "(Z)V"⟩, 22), (⟨"WeirWordsModel", "readsWord", "()V"⟩, 22), (⟨"WeirWordsModel", "isRiver", "()Z"⟩, 22), (⟨"WeirWordsModel", "notes", "()V"⟩, 22)]
theorem lw_r3 : ∀ q ∈ lw_privs_3, lw_okq q := List.forall_mem_cons.mpr ⟨lw_p32, List.forall_mem_cons.mpr ⟨lw_p33, List.forall_mem_cons.mpr ⟨lw_p34, List.forall_mem_cons.mpr ⟨lw_p35, List.forall_mem_cons.mpr ⟨lw_p36, List.forall_mem_cons.mpr ⟨lw_p37, List.forall_mem_cons.mpr ⟨lw_p38, List.forall_mem_cons.mpr ⟨lw_p39, List.forall_mem_cons.mpr ⟨lw_p40, List.forall_mem_cons.mpr ⟨lw_p41, List.forall_mem_cons.mpr ⟨lw_p42, List.forall_mem_cons.mpr ⟨lw_p43, List.forall_mem_cons.mpr ⟨lw_p44, List.forall_mem_cons.mpr ⟨lw_p45, List.forall_mem_cons.mpr ⟨lw_p46, List.forall_mem_cons.mpr ⟨lw_p47, fun _ h => absurd h List.not_mem_nil⟩⟩⟩⟩⟩⟩⟩⟩⟩⟩⟩⟩⟩⟩⟩⟩
theorem lw_p48 : lw_okq (⟨"WeirWordsModel", "isWord", "(I)Z"⟩, 22) := ⟨⟨by decide +kernel, by decide +kernel⟩, List.mem_of_getElem? (i := 654) (by decide +kernel), List.mem_of_getElem? (i := 866) (by decide +kernel), List.mem_of_getElem? (i := 867) (by decide +kernel)⟩
theorem lw_p49 : lw_okq (⟨"WeirWordsModel", "isCell", "(I)Z"⟩, 22) := ⟨⟨by decide +kernel, by decide +kernel⟩, List.mem_of_getElem? (i := 654) (by decide +kernel), List.mem_of_getElem? (i := 870) (by decide +kernel), List.mem_of_getElem? (i := 871) (by decide +kernel)⟩
theorem lw_p50 : lw_okq (⟨"WeirWordsModel", "wordsIn", "(I)I"⟩, 22) := ⟨⟨by decide +kernel, by decide +kernel⟩, List.mem_of_getElem? (i := 654) (by decide +kernel), List.mem_of_getElem? (i := 900) (by decide +kernel), List.mem_of_getElem? (i := 901) (by decide +kernel)⟩
theorem lw_p51 : lw_okq (⟨"WeirWordsModel", "goesOn", "(I)V"⟩, 22) := ⟨⟨by decide +kernel, by decide +kernel⟩, List.mem_of_getElem? (i := 654) (by decide +kernel), List.mem_of_getElem? (i := 908) (by decide +kernel), List.mem_of_getElem? (i := 909) (by decide +kernel)⟩
theorem lw_p52 : lw_okq (⟨"WeirWordsModel", "isGone", "(I)Z"⟩, 22) := ⟨⟨by decide +kernel, by decide +kernel⟩, List.mem_of_getElem? (i := 654) (by decide +kernel), List.mem_of_getElem? (i := 956) (by decide +kernel), List.mem_of_getElem? (i := 957) (by decide +kernel)⟩
theorem lw_p53 : lw_okq (⟨"WeirWordsModel", "isSeen", "(IIIII)Z"⟩, 22) := ⟨⟨by decide +kernel, by decide +kernel⟩, List.mem_of_getElem? (i := 654) (by decide +kernel), List.mem_of_getElem? (i := 960) (by decide +kernel), List.mem_of_getElem? (i := 961) (by decide +kernel)⟩
theorem lw_p54 : lw_okq (⟨"WeirWordsModel", "kindIn", "(I)I"⟩, 22) := ⟨⟨by decide +kernel, by decide +kernel⟩, List.mem_of_getElem? (i := 654) (by decide +kernel), List.mem_of_getElem? (i := 989) (by decide +kernel), List.mem_of_getElem? (i := 990) (by decide +kernel)⟩
theorem lw_p55 : lw_okq (⟨"WeirWordsModel", "salmonSize", "(I)I"⟩, 22) := ⟨⟨by decide +kernel, by decide +kernel⟩, List.mem_of_getElem? (i := 654) (by decide +kernel), List.mem_of_getElem? (i := 1001) (by decide +kernel), List.mem_of_getElem? (i := 1002) (by decide +kernel)⟩
theorem lw_p56 : lw_okq (⟨"WeirWordsModel", "begins", "(I)V"⟩, 22) := ⟨⟨by decide +kernel, by decide +kernel⟩, List.mem_of_getElem? (i := 654) (by decide +kernel), List.mem_of_getElem? (i := 1005) (by decide +kernel), List.mem_of_getElem? (i := 1006) (by decide +kernel)⟩
theorem lw_p57 : lw_okq (⟨"WeirWordsModel", "stickSize", "(I)I"⟩, 22) := ⟨⟨by decide +kernel, by decide +kernel⟩, List.mem_of_getElem? (i := 654) (by decide +kernel), List.mem_of_getElem? (i := 1009) (by decide +kernel), List.mem_of_getElem? (i := 1010) (by decide +kernel)⟩
theorem lw_p58 : lw_okq (⟨"WeirWordsModel", "stickMark", "(I)I"⟩, 22) := ⟨⟨by decide +kernel, by decide +kernel⟩, List.mem_of_getElem? (i := 654) (by decide +kernel), List.mem_of_getElem? (i := 1013) (by decide +kernel), List.mem_of_getElem? (i := 1014) (by decide +kernel)⟩
theorem lw_p59 : lw_okq (⟨"WeirWordsModel", "salmonMark", "(I)I"⟩, 22) := ⟨⟨by decide +kernel, by decide +kernel⟩, List.mem_of_getElem? (i := 654) (by decide +kernel), List.mem_of_getElem? (i := 1017) (by decide +kernel), List.mem_of_getElem? (i := 1018) (by decide +kernel)⟩
def lw_privs_4 : List (MethodName × Nat) := [(⟨"WeirWordsModel", "isWord", "(I)Z"⟩, 22), (⟨"WeirWordsModel", "isCell", "(I)Z"⟩, 22), (⟨"WeirWordsModel", "wordsIn", "(I)I"⟩, 22), (⟨"WeirWordsModel", "goesOn", "(I)V"⟩, 22), (⟨"WeirWordsModel", "isGone", "(I)Z"⟩, 22), (⟨"WeirWordsModel", "isSeen", "(IIIII)Z"⟩, 22), (⟨"WeirWordsModel", "kindIn", "(I)I"⟩, 22), (⟨"WeirWordsModel", "salmonSize", "(I)I"⟩, 22), (⟨"WeirWordsModel", "begins", "(I)V"⟩, 22), (⟨"WeirWordsModel", "stickSize", "(I)I"⟩, 22), (⟨"WeirWordsModel", "stickMark", "(I)I"⟩, 22), (⟨"WeirWordsModel", "salmonMark", "(I)I"⟩, 22)]
theorem lw_r4 : ∀ q ∈ lw_privs_4, lw_okq q := List.forall_mem_cons.mpr ⟨lw_p48, List.forall_mem_cons.mpr ⟨lw_p49, List.forall_mem_cons.mpr ⟨lw_p50, List.forall_mem_cons.mpr ⟨lw_p51, List.forall_mem_cons.mpr ⟨lw_p52, List.forall_mem_cons.mpr ⟨lw_p53, List.forall_mem_cons.mpr ⟨lw_p54, List.forall_mem_cons.mpr ⟨lw_p55, List.forall_mem_cons.mpr ⟨lw_p56, List.forall_mem_cons.mpr ⟨lw_p57, List.forall_mem_cons.mpr ⟨lw_p58, List.forall_mem_cons.mpr ⟨lw_p59, fun _ h => absurd h List.not_mem_nil⟩⟩⟩⟩⟩⟩⟩⟩⟩⟩⟩⟩
def lw_privs : List (MethodName × Nat) := lw_privs_1 ++ (lw_privs_2 ++ (lw_privs_3 ++ (lw_privs_4)))
def lw_tbl : List Cond := k2_sels lw_privs ++ tables_1
theorem lw_privs_ok : ∀ q ∈ lw_privs, lw_okq q := by
  show ∀ q ∈ lw_privs_1 ++ (lw_privs_2 ++ (lw_privs_3 ++ (lw_privs_4))), lw_okq q
  exact List.forall_mem_append.mpr ⟨lw_r1, List.forall_mem_append.mpr ⟨lw_r2, List.forall_mem_append.mpr ⟨lw_r3, lw_r4⟩⟩⟩
end
section
def RX0 : String := "WeirWords$Asks"
def TX0 : u_T := fun k => match k with
  | 0 => ("WeirWords$Asks", "trail", "[I", true)
  | 1 => ("WeirWords$Asks", "length", "I", false)
  | 2 => ("WeirWords$Asks", "word", "I", false)
  | 3 => ("WeirWords$Asks", "kind", "I", false)
  | 4 => ("WeirWords$Asks", "size", "I", false)
  | _ => ("WeirWords$Asks", "cell", "I", false)
def tyX0 : Nat → FieldType := fun k => match k with
  | 0 => .array .int
  | 1 => .int
  | 2 => .int
  | 3 => .int
  | 4 => .int
  | _ => .int
abbrev wsX00 : List Cond := u_ws RX0 TX0 6
theorem nmX0 : ∀ a, a < 6 → ∀ b, b < 6 → a ≠ b → (TX0 a).2.1 ≠ (TX0 b).2.1 := by decide +kernel
theorem tyX0_ok : ∀ k, k < 6 → parseFieldDescriptor (TX0 k).2.2.1 = some (tyX0 k) := by decide +kernel
abbrev cX0_init : ByteArray := prog_2_method_1_code
def yX0_init : MethodName := ⟨RX0, "<init>", "()V"⟩
abbrev cX0_begin : ByteArray := prog_2_method_2_code
def yX0_begin : MethodName := ⟨RX0, "begin", "(LWeirWords$River;I)V"⟩
abbrev cX0_hasLeft : ByteArray := prog_2_method_3_code
def yX0_hasLeft : MethodName := ⟨RX0, "hasLeft", "(I)Z"⟩
abbrev cX0_askSize : ByteArray := prog_2_method_4_code
def yX0_askSize : MethodName := ⟨RX0, "askSize", "()I"⟩
abbrev cX0_askMark : ByteArray := prog_2_method_5_code
def yX0_askMark : MethodName := ⟨RX0, "askMark", "()I"⟩
abbrev cX0_anyStickMark : ByteArray := prog_2_method_6_code
def yX0_anyStickMark : MethodName := ⟨RX0, "anyStickMark", "()I"⟩
abbrev cX0_salmonOrEelSize : ByteArray := prog_2_method_7_code
def yX0_salmonOrEelSize : MethodName := ⟨RX0, "salmonOrEelSize", "()I"⟩
abbrev cX0_stickSize : ByteArray := prog_2_method_8_code
def yX0_stickSize : MethodName := ⟨RX0, "stickSize", "()I"⟩
abbrev cX0_salmonSize : ByteArray := prog_2_method_9_code
def yX0_salmonSize : MethodName := ⟨RX0, "salmonSize", "()I"⟩
abbrev cX0_lentSize : ByteArray := prog_2_method_10_code
def yX0_lentSize : MethodName := ⟨RX0, "lentSize", "()I"⟩
abbrev cX0_stickMark : ByteArray := prog_2_method_11_code
def yX0_stickMark : MethodName := ⟨RX0, "stickMark", "()I"⟩
abbrev cX0_salmonMark : ByteArray := prog_2_method_12_code
def yX0_salmonMark : MethodName := ⟨RX0, "salmonMark", "()I"⟩
abbrev cX0_lentMark : ByteArray := prog_2_method_13_code
def yX0_lentMark : MethodName := ⟨RX0, "lentMark", "()I"⟩
abbrev cX0_leave : ByteArray := prog_2_method_14_code
def yX0_leave : MethodName := ⟨RX0, "leave", "(I)V"⟩
def RX1 : String := "WeirWords$Kinds"
def TX1 : u_T := fun k => match k with
  | _ => ("", "", "", false)
def tyX1 : Nat → FieldType := fun k => match k with
  | _ => .int
abbrev wsX10 : List Cond := u_ws RX1 TX1 0
theorem nmX1 : ∀ a, a < 0 → ∀ b, b < 0 → a ≠ b → (TX1 a).2.1 ≠ (TX1 b).2.1 := by decide +kernel
theorem tyX1_ok : ∀ k, k < 0 → parseFieldDescriptor (TX1 k).2.2.1 = some (tyX1 k) := by decide +kernel
abbrev cX1_isOne : ByteArray := prog_3_method_2_code
def yX1_isOne : MethodName := ⟨RX1, "isOne", "(II)Z"⟩
abbrev cX1_byLetter : ByteArray := prog_3_method_3_code
def yX1_byLetter : MethodName := ⟨RX1, "byLetter", "(I)I"⟩
def RX2 : String := "WeirWords$River"
def TX2 : u_T := fun k => match k with
  | 0 => ("WeirWords$River", "cells", "I", false)
  | 1 => ("WeirWords$River", "words", "I", false)
  | 2 => ("WeirWords$River", "edge", "I", false)
  | 3 => ("WeirWords$River", "rainBits", "I", false)
  | 4 => ("WeirWords$River", "minute", "I", false)
  | 5 => ("WeirWords$River", "speeds", "[I", true)
  | 6 => ("WeirWords$River", "kinds", "[I", true)
  | _ => ("WeirWords$River", "said", "[I", true)
def tyX2 : Nat → FieldType := fun k => match k with
  | 0 => .int
  | 1 => .int
  | 2 => .int
  | 3 => .int
  | 4 => .int
  | 5 => .array .int
  | 6 => .array .int
  | _ => .array .int
abbrev wsX20 : List Cond := u_ws RX2 TX2 8
theorem nmX2 : ∀ a, a < 8 → ∀ b, b < 8 → a ≠ b → (TX2 a).2.1 ≠ (TX2 b).2.1 := by decide +kernel
theorem tyX2_ok : ∀ k, k < 8 → parseFieldDescriptor (TX2 k).2.2.1 = some (tyX2 k) := by decide +kernel
abbrev cX2_init : ByteArray := prog_4_method_1_code
def yX2_init : MethodName := ⟨RX2, "<init>", "()V"⟩
abbrev cX2_packed : ByteArray := prog_4_method_2_code
def yX2_packed : MethodName := ⟨RX2, "packed", "(II)I"⟩
abbrev cX2_sizeIn : ByteArray := prog_4_method_3_code
def yX2_sizeIn : MethodName := ⟨RX2, "sizeIn", "(I)I"⟩
abbrev cX2_cellIn : ByteArray := prog_4_method_4_code
def yX2_cellIn : MethodName := ⟨RX2, "cellIn", "(I)I"⟩
abbrev cX2_isGone : ByteArray := prog_4_method_5_code
def yX2_isGone : MethodName := ⟨RX2, "isGone", "(I)Z"⟩
abbrev cX2_empty : ByteArray := prog_4_method_6_code
def yX2_empty : MethodName := ⟨RX2, "empty", "()V"⟩
abbrev cX2_become : ByteArray := prog_4_method_7_code
def yX2_become : MethodName := ⟨RX2, "become", "(LWeirWords$River;)V"⟩
abbrev cX2_takeSpeeds : ByteArray := prog_4_method_8_code
def yX2_takeSpeeds : MethodName := ⟨RX2, "takeSpeeds", "(LWeirWords$River;I)V"⟩
abbrev cX2_hasCell : ByteArray := prog_4_method_9_code
def yX2_hasCell : MethodName := ⟨RX2, "hasCell", "(I)Z"⟩
abbrev cX2_hasWord : ByteArray := prog_4_method_10_code
def yX2_hasWord : MethodName := ⟨RX2, "hasWord", "(I)Z"⟩
abbrev cX2_sizeOf : ByteArray := prog_4_method_11_code
def yX2_sizeOf : MethodName := ⟨RX2, "sizeOf", "(I)I"⟩
abbrev cX2_goneBits : ByteArray := prog_4_method_12_code
def yX2_goneBits : MethodName := ⟨RX2, "goneBits", "()I"⟩
abbrev cX2_wordsIn : ByteArray := prog_4_method_13_code
def yX2_wordsIn : MethodName := ⟨RX2, "wordsIn", "(I)I"⟩
abbrev cX2_hasClimber : ByteArray := prog_4_method_14_code
def yX2_hasClimber : MethodName := ⟨RX2, "hasClimber", "()Z"⟩
abbrev cX2_isWet : ByteArray := prog_4_method_15_code
def yX2_isWet : MethodName := ⟨RX2, "isWet", "(I)Z"⟩
abbrev cX2_paceOf : ByteArray := prog_4_method_16_code
def yX2_paceOf : MethodName := ⟨RX2, "paceOf", "(IZ)I"⟩
abbrev cX2_passMinute : ByteArray := prog_4_method_17_code
def yX2_passMinute : MethodName := ⟨RX2, "passMinute", "()V"⟩
abbrev cX2_moved : ByteArray := prog_4_method_18_code
def yX2_moved : MethodName := ⟨RX2, "moved", "(IIIZ)I"⟩
abbrev cX2_drifted : ByteArray := prog_4_method_19_code
def yX2_drifted : MethodName := ⟨RX2, "drifted", "(IIZ)I"⟩
abbrev cX2_climbed : ByteArray := prog_4_method_20_code
def yX2_climbed : MethodName := ⟨RX2, "climbed", "(IIZ)I"⟩
abbrev cX2_foretold : ByteArray := prog_4_method_21_code
def yX2_foretold : MethodName := ⟨RX2, "foretold", "(II)I"⟩
abbrev cX2_foretoldIn : ByteArray := prog_4_method_22_code
def yX2_foretoldIn : MethodName := ⟨RX2, "foretoldIn", "(III)I"⟩
abbrev cX2_goneBehind : ByteArray := prog_4_method_23_code
def yX2_goneBehind : MethodName := ⟨RX2, "goneBehind", "(II)I"⟩
abbrev cX2_quarrelBehind : ByteArray := prog_4_method_24_code
def yX2_quarrelBehind : MethodName := ⟨RX2, "quarrelBehind", "(I)I"⟩
abbrev cX2_isAllGoneBehind : ByteArray := prog_4_method_25_code
def yX2_isAllGoneBehind : MethodName := ⟨RX2, "isAllGoneBehind", "(I)Z"⟩
abbrev cX2_goesAsTold : ByteArray := prog_4_method_26_code
def yX2_goesAsTold : MethodName := ⟨RX2, "goesAsTold", "(II[III)Z"⟩
abbrev cX2_sayDrawn : ByteArray := prog_4_method_27_code
def yX2_sayDrawn : MethodName := ⟨RX2, "sayDrawn", "(I)Z"⟩
def RX3 : String := "WeirWords$Rows"
def TX3 : u_T := fun k => match k with
  | 0 => ("WeirWords$Rows", "items", "[[I", true)
  | 1 => ("WeirWords$Rows", "lanes", "[I", true)
  | _ => ("WeirWords$Rows", "lengths", "[I", true)
def tyX3 : Nat → FieldType := fun k => match k with
  | 0 => .array (.array .int)
  | 1 => .array .int
  | _ => .array .int
abbrev wsX30 : List Cond := u_ws RX3 TX3 3
theorem nmX3 : ∀ a, a < 3 → ∀ b, b < 3 → a ≠ b → (TX3 a).2.1 ≠ (TX3 b).2.1 := by decide +kernel
theorem tyX3_ok : ∀ k, k < 3 → parseFieldDescriptor (TX3 k).2.2.1 = some (tyX3 k) := by decide +kernel
abbrev cX3_init : ByteArray := prog_5_method_1_code
def yX3_init : MethodName := ⟨RX3, "<init>", "()V"⟩
abbrev cX3_isRow : ByteArray := prog_5_method_2_code
def yX3_isRow : MethodName := ⟨RX3, "isRow", "(I)Z"⟩
abbrev cX3_isLane : ByteArray := prog_5_method_3_code
def yX3_isLane : MethodName := ⟨RX3, "isLane", "(I)Z"⟩
abbrev cX3_isMissing : ByteArray := prog_5_method_4_code
def yX3_isMissing : MethodName := ⟨RX3, "isMissing", "(I)Z"⟩
abbrev cX3_haveOneLane : ByteArray := prog_5_method_5_code
def yX3_haveOneLane : MethodName := ⟨RX3, "haveOneLane", "(II)Z"⟩
abbrev cX3_hasPlaces : ByteArray := prog_5_method_6_code
def yX3_hasPlaces : MethodName := ⟨RX3, "hasPlaces", "(III)Z"⟩
abbrev cX3_lay : ByteArray := prog_5_method_7_code
def yX3_lay : MethodName := ⟨RX3, "lay", "(III)V"⟩
abbrev cX3_put : ByteArray := prog_5_method_8_code
def yX3_put : MethodName := ⟨RX3, "put", "(III)I"⟩
abbrev cX3_carry : ByteArray := prog_5_method_9_code
def yX3_carry : MethodName := ⟨RX3, "carry", "(IIIII)V"⟩
abbrev cX3_lose : ByteArray := prog_5_method_10_code
def yX3_lose : MethodName := ⟨RX3, "lose", "(I)I"⟩
abbrev cX3_present : ByteArray := prog_5_method_11_code
def yX3_present : MethodName := ⟨RX3, "present", "()I"⟩
def RX4 : String := "WeirWords$Tape"
def TX4 : u_T := fun k => match k with
  | 0 => ("WeirWords$Tape", "bytes", "[I", true)
  | 1 => ("WeirWords$Tape", "length", "I", false)
  | 2 => ("WeirWords$Tape", "at", "I", false)
  | _ => ("WeirWords$Tape", "latestFault", "I", false)
def tyX4 : Nat → FieldType := fun k => match k with
  | 0 => .array .int
  | 1 => .int
  | 2 => .int
  | _ => .int
abbrev wsX40 : List Cond := u_ws RX4 TX4 4
theorem nmX4 : ∀ a, a < 4 → ∀ b, b < 4 → a ≠ b → (TX4 a).2.1 ≠ (TX4 b).2.1 := by decide +kernel
theorem tyX4_ok : ∀ k, k < 4 → parseFieldDescriptor (TX4 k).2.2.1 = some (tyX4 k) := by decide +kernel
abbrev cX4_init : ByteArray := prog_6_method_1_code
def yX4_init : MethodName := ⟨RX4, "<init>", "()V"⟩
abbrev cX4_isFull : ByteArray := prog_6_method_2_code
def yX4_isFull : MethodName := ⟨RX4, "isFull", "()Z"⟩
abbrev cX4_take : ByteArray := prog_6_method_3_code
def yX4_take : MethodName := ⟨RX4, "take", "(I)I"⟩
abbrev cX4_wipe : ByteArray := prog_6_method_4_code
def yX4_wipe : MethodName := ⟨RX4, "wipe", "()V"⟩
abbrev cX4_readInto : ByteArray := prog_6_method_5_code
def yX4_readInto : MethodName := ⟨RX4, "readInto", "(LWeirWords$River;)Z"⟩
abbrev cX4_readLaw : ByteArray := prog_6_method_6_code
def yX4_readLaw : MethodName := ⟨RX4, "readLaw", "(LWeirWords$River;)Z"⟩
abbrev cX4_readCells : ByteArray := prog_6_method_7_code
def yX4_readCells : MethodName := ⟨RX4, "readCells", "(LWeirWords$River;)Z"⟩
abbrev cX4_readCell : ByteArray := prog_6_method_8_code
def yX4_readCell : MethodName := ⟨RX4, "readCell", "(LWeirWords$River;)Z"⟩
abbrev cX4_readWords : ByteArray := prog_6_method_9_code
def yX4_readWords : MethodName := ⟨RX4, "readWords", "(LWeirWords$River;)Z"⟩
abbrev cX4_readWord : ByteArray := prog_6_method_10_code
def yX4_readWord : MethodName := ⟨RX4, "readWord", "(LWeirWords$River;)Z"⟩
abbrev cX4_isAt : ByteArray := prog_6_method_11_code
def yX4_isAt : MethodName := ⟨RX4, "isAt", "(C)Z"⟩
abbrev cX4_passes : ByteArray := prog_6_method_12_code
def yX4_passes : MethodName := ⟨RX4, "passes", "(C)Z"⟩
abbrev cX4_faulty : ByteArray := prog_6_method_13_code
def yX4_faulty : MethodName := ⟨RX4, "faulty", "(I)Z"⟩
abbrev cX4_readNumber : ByteArray := prog_6_method_14_code
def yX4_readNumber : MethodName := ⟨RX4, "readNumber", "(II)I"⟩
abbrev cX4_figuresFrom : ByteArray := prog_6_method_15_code
def yX4_figuresFrom : MethodName := ⟨RX4, "figuresFrom", "(I)I"⟩
def RX5 : String := "WeirWords"
def TX5 : u_T := fun k => match k with
  | 0 => ("WeirWords", "rows", "LWeirWords$Rows;", true)
  | 1 => ("WeirWords", "tape", "LWeirWords$Tape;", true)
  | 2 => ("WeirWords", "asks", "LWeirWords$Asks;", true)
  | 3 => ("WeirWords", "now", "LWeirWords$River;", true)
  | 4 => ("WeirWords", "trial", "LWeirWords$River;", true)
  | 5 => ("WeirWords", "before", "[LWeirWords$River;", true)
  | 6 => ("WeirWords", "images", "[LWeirWords$River;", true)
  | 7 => ("WeirWords", "nextAct", "I", false)
  | 8 => ("WeirWords", "actsKept", "I", false)
  | _ => ("WeirWords", "lastFinding", "I", false)
def tyX5 : Nat → FieldType := fun k => match k with
  | 0 => .object "WeirWords$Rows"
  | 1 => .object "WeirWords$Tape"
  | 2 => .object "WeirWords$Asks"
  | 3 => .object "WeirWords$River"
  | 4 => .object "WeirWords$River"
  | 5 => .array (.object "WeirWords$River")
  | 6 => .array (.object "WeirWords$River")
  | 7 => .int
  | 8 => .int
  | _ => .int
abbrev wsX50 : List Cond := u_ws RX5 TX5 10
theorem nmX5 : ∀ a, a < 10 → ∀ b, b < 10 → a ≠ b → (TX5 a).2.1 ≠ (TX5 b).2.1 := by decide +kernel
theorem tyX5_ok : ∀ k, k < 10 → parseFieldDescriptor (TX5 k).2.2.1 = some (tyX5 k) := by decide +kernel
abbrev cX5_init : ByteArray := prog_1_method_1_code
def yX5_init : MethodName := ⟨RX5, "<init>", "()V"⟩
abbrev cX5_row : ByteArray := prog_1_method_2_code
def yX5_row : MethodName := ⟨RX5, "row", "(III)I"⟩
abbrev cX5_set : ByteArray := prog_1_method_3_code
def yX5_set : MethodName := ⟨RX5, "set", "(III)I"⟩
abbrev cX5_copy : ByteArray := prog_1_method_4_code
def yX5_copy : MethodName := ⟨RX5, "copy", "(IIIII)I"⟩
abbrev cX5_drop : ByteArray := prog_1_method_5_code
def yX5_drop : MethodName := ⟨RX5, "drop", "(I)I"⟩
abbrev cX5_feed : ByteArray := prog_1_method_6_code
def yX5_feed : MethodName := ⟨RX5, "feed", "(I)I"⟩
abbrev cX5_river : ByteArray := prog_1_method_7_code
def yX5_river : MethodName := ⟨RX5, "river", "()I"⟩
abbrev cX5_fault : ByteArray := prog_1_method_8_code
def yX5_fault : MethodName := ⟨RX5, "fault", "()I"⟩
abbrev cX5_minutes : ByteArray := prog_1_method_9_code
def yX5_minutes : MethodName := ⟨RX5, "minutes", "(I)I"⟩
abbrev cX5_say : ByteArray := prog_1_method_10_code
def yX5_say : MethodName := ⟨RX5, "say", "(III)I"⟩
abbrev cX5_speed : ByteArray := prog_1_method_11_code
def yX5_speed : MethodName := ⟨RX5, "speed", "(II)I"⟩
abbrev cX5_rain : ByteArray := prog_1_method_12_code
def yX5_rain : MethodName := ⟨RX5, "rain", "(I)I"⟩
abbrev cX5_undo : ByteArray := prog_1_method_13_code
def yX5_undo : MethodName := ⟨RX5, "undo", "()I"⟩
abbrev cX5_word : ByteArray := prog_1_method_14_code
def yX5_word : MethodName := ⟨RX5, "word", "(II)I"⟩
abbrev cX5_cell : ByteArray := prog_1_method_15_code
def yX5_cell : MethodName := ⟨RX5, "cell", "(II)I"⟩
abbrev cX5_ahead : ByteArray := prog_1_method_16_code
def yX5_ahead : MethodName := ⟨RX5, "ahead", "(III)I"⟩
abbrev cX5_quarrel : ByteArray := prog_1_method_17_code
def yX5_quarrel : MethodName := ⟨RX5, "quarrel", "(I)I"⟩
abbrev cX5_over : ByteArray := prog_1_method_18_code
def yX5_over : MethodName := ⟨RX5, "over", "(I)I"⟩
abbrev cX5_kept : ByteArray := prog_1_method_19_code
def yX5_kept : MethodName := ⟨RX5, "kept", "()I"⟩
abbrev cX5_calm : ByteArray := prog_1_method_20_code
def yX5_calm : MethodName := ⟨RX5, "calm", "(II)I"⟩
abbrev cX5_swift : ByteArray := prog_1_method_21_code
def yX5_swift : MethodName := ⟨RX5, "swift", "(II)I"⟩
abbrev cX5_stir : ByteArray := prog_1_method_22_code
def yX5_stir : MethodName := ⟨RX5, "stir", "(III)I"⟩
abbrev cX5_share : ByteArray := prog_1_method_23_code
def yX5_share : MethodName := ⟨RX5, "share", "(II)I"⟩
abbrev cX5_fits : ByteArray := prog_1_method_24_code
def yX5_fits : MethodName := ⟨RX5, "fits", "(IIIII)I"⟩
abbrev cX5_chance : ByteArray := prog_1_method_25_code
def yX5_chance : MethodName := ⟨RX5, "chance", "(IIII)I"⟩
abbrev cX5_drawn : ByteArray := prog_1_method_26_code
def yX5_drawn : MethodName := ⟨RX5, "drawn", "(III)I"⟩
abbrev cX5_image : ByteArray := prog_1_method_27_code
def yX5_image : MethodName := ⟨RX5, "image", "(I)I"⟩
abbrev cX5_restore : ByteArray := prog_1_method_28_code
def yX5_restore : MethodName := ⟨RX5, "restore", "(I)I"⟩
abbrev cX5_kind : ByteArray := prog_1_method_29_code
def yX5_kind : MethodName := ⟨RX5, "kind", "(I)I"⟩
abbrev cX5_as : ByteArray := prog_1_method_30_code
def yX5_as : MethodName := ⟨RX5, "as", "(II)I"⟩
abbrev cX5_ask : ByteArray := prog_1_method_31_code
def yX5_ask : MethodName := ⟨RX5, "ask", "(II)I"⟩
abbrev cX5_trace : ByteArray := prog_1_method_32_code
def yX5_trace : MethodName := ⟨RX5, "trace", "(I)I"⟩
abbrev cX5_count : ByteArray := prog_1_method_33_code
def yX5_count : MethodName := ⟨RX5, "count", "(I)I"⟩
abbrev cX5_status : ByteArray := prog_1_method_34_code
def yX5_status : MethodName := ⟨RX5, "status", "()I"⟩
abbrev cX5_isWithin : ByteArray := prog_1_method_35_code
def yX5_isWithin : MethodName := ⟨RX5, "isWithin", "(III)Z"⟩
abbrev cX5_finding : ByteArray := prog_1_method_36_code
def yX5_finding : MethodName := ⟨RX5, "finding", "(I)I"⟩
abbrev cX5_unfound : ByteArray := prog_1_method_37_code
def yX5_unfound : MethodName := ⟨RX5, "unfound", "(I)I"⟩
abbrev cX5_hasRiver : ByteArray := prog_1_method_38_code
def yX5_hasRiver : MethodName := ⟨RX5, "hasRiver", "()Z"⟩
abbrev cX5_cellOrNone : ByteArray := prog_1_method_39_code
def yX5_cellOrNone : MethodName := ⟨RX5, "cellOrNone", "(I)I"⟩
abbrev cX5_keepAct : ByteArray := prog_1_method_40_code
def yX5_keepAct : MethodName := ⟨RX5, "keepAct", "()V"⟩
abbrev cX5_forgetActs : ByteArray := prog_1_method_41_code
def yX5_forgetActs : MethodName := ⟨RX5, "forgetActs", "()V"⟩
abbrev cX5_fewestSwift : ByteArray := prog_1_method_42_code
def yX5_fewestSwift : MethodName := ⟨RX5, "fewestSwift", "(I)I"⟩
abbrev cX5_fittingSorts : ByteArray := prog_1_method_43_code
def yX5_fittingSorts : MethodName := ⟨RX5, "fittingSorts", "(I[III)I"⟩
abbrev cX5_fittingStarts : ByteArray := prog_1_method_44_code
def yX5_fittingStarts : MethodName := ⟨RX5, "fittingStarts", "(I[III)I"⟩
abbrev cX5_fittingRains : ByteArray := prog_1_method_45_code
def yX5_fittingRains : MethodName := ⟨RX5, "fittingRains", "(I[III)I"⟩
abbrev cX5_fittingSizes : ByteArray := prog_1_method_46_code
def yX5_fittingSizes : MethodName := ⟨RX5, "fittingSizes", "(I[III)I"⟩
abbrev cX5_leastFittingSize : ByteArray := prog_1_method_47_code
def yX5_leastFittingSize : MethodName := ⟨RX5, "leastFittingSize", "(I[III)I"⟩
abbrev cX5_fitsSize : ByteArray := prog_1_method_48_code
def yX5_fitsSize : MethodName := ⟨RX5, "fitsSize", "(II[III)Z"⟩
abbrev cX5_power : ByteArray := prog_1_method_49_code
def yX5_power : MethodName := ⟨RX5, "power", "(II)I"⟩
abbrev cX5_commonDivisor : ByteArray := prog_1_method_50_code
def yX5_commonDivisor : MethodName := ⟨RX5, "commonDivisor", "(II)I"⟩
def RX6 : String := "WeirWordsModel"
def TX6 : u_T := fun k => match k with
  | 0 => ("WeirWordsModel", "lane", "[I", true)
  | 1 => ("WeirWordsModel", "many", "[I", true)
  | 2 => ("WeirWordsModel", "items", "[I", true)
  | 3 => ("WeirWordsModel", "spare", "[I", true)
  | 4 => ("WeirWordsModel", "status", "I", false)
  | 5 => ("WeirWordsModel", "tape", "[I", true)
  | 6 => ("WeirWordsModel", "taped", "I", false)
  | 7 => ("WeirWordsModel", "faultKind", "I", false)
  | 8 => ("WeirWordsModel", "faultPlace", "I", false)
  | 9 => ("WeirWordsModel", "at", "I", false)
  | 10 => ("WeirWordsModel", "start", "I", false)
  | 11 => ("WeirWordsModel", "token", "I", false)
  | 12 => ("WeirWordsModel", "value", "I", false)
  | 13 => ("WeirWordsModel", "now", "[I", true)
  | 14 => ("WeirWordsModel", "draft", "[I", true)
  | 15 => ("WeirWordsModel", "tried", "[I", true)
  | 16 => ("WeirWordsModel", "past", "[I", true)
  | 17 => ("WeirWordsModel", "acts", "I", false)
  | 18 => ("WeirWordsModel", "images", "[I", true)
  | 19 => ("WeirWordsModel", "kept", "[Z", true)
  | 20 => ("WeirWordsModel", "trace", "[I", true)
  | _ => ("WeirWordsModel", "traced", "I", false)
def tyX6 : Nat → FieldType := fun k => match k with
  | 0 => .array .int
  | 1 => .array .int
  | 2 => .array .int
  | 3 => .array .int
  | 4 => .int
  | 5 => .array .int
  | 6 => .int
  | 7 => .int
  | 8 => .int
  | 9 => .int
  | 10 => .int
  | 11 => .int
  | 12 => .int
  | 13 => .array .int
  | 14 => .array .int
  | 15 => .array .int
  | 16 => .array .int
  | 17 => .int
  | 18 => .array .int
  | 19 => .array .boolean
  | 20 => .array .int
  | _ => .int
abbrev wsX60 : List Cond := u_ws RX6 TX6 22
theorem nmX6 : ∀ a, a < 22 → ∀ b, b < 22 → a ≠ b → (TX6 a).2.1 ≠ (TX6 b).2.1 := by decide +kernel
theorem tyX6_ok : ∀ k, k < 22 → parseFieldDescriptor (TX6 k).2.2.1 = some (tyX6 k) := by decide +kernel
abbrev cX6_init : ByteArray := prog_8_method_1_code
def yX6_init : MethodName := ⟨RX6, "<init>", "()V"⟩
abbrev cX6_in : ByteArray := prog_8_method_3_code
def yX6_in : MethodName := ⟨RX6, "in", "(III)Z"⟩
abbrev cX6_has : ByteArray := prog_8_method_4_code
def yX6_has : MethodName := ⟨RX6, "has", "(II)Z"⟩
abbrev cX6_ones : ByteArray := prog_8_method_5_code
def yX6_ones : MethodName := ⟨RX6, "ones", "(I)I"⟩
abbrev cX6_found : ByteArray := prog_8_method_6_code
def yX6_found : MethodName := ⟨RX6, "found", "(I)I"⟩
abbrev cX6_well : ByteArray := prog_8_method_7_code
def yX6_well : MethodName := ⟨RX6, "well", "(I)I"⟩
abbrev cX6_copies : ByteArray := prog_8_method_8_code
def yX6_copies : MethodName := ⟨RX6, "copies", "([II[II)V"⟩
abbrev cX6_isRow : ByteArray := prog_8_method_9_code
def yX6_isRow : MethodName := ⟨RX6, "isRow", "(I)Z"⟩
abbrev cX6_isMissing : ByteArray := prog_8_method_10_code
def yX6_isMissing : MethodName := ⟨RX6, "isMissing", "(I)Z"⟩
abbrev cX6_cut : ByteArray := prog_8_method_11_code
def yX6_cut : MethodName := ⟨RX6, "cut", "(II)I"⟩
abbrev cX6_row : ByteArray := prog_8_method_12_code
def yX6_row : MethodName := ⟨RX6, "row", "(III)I"⟩
abbrev cX6_set : ByteArray := prog_8_method_13_code
def yX6_set : MethodName := ⟨RX6, "set", "(III)I"⟩
abbrev cX6_isPart : ByteArray := prog_8_method_14_code
def yX6_isPart : MethodName := ⟨RX6, "isPart", "(III)Z"⟩
abbrev cX6_copy : ByteArray := prog_8_method_15_code
def yX6_copy : MethodName := ⟨RX6, "copy", "(IIIII)I"⟩
abbrev cX6_drop : ByteArray := prog_8_method_16_code
def yX6_drop : MethodName := ⟨RX6, "drop", "(I)I"⟩
abbrev cX6_feed : ByteArray := prog_8_method_17_code
def yX6_feed : MethodName := ⟨RX6, "feed", "(I)I"⟩
abbrev cX6_byteAt : ByteArray := prog_8_method_18_code
def yX6_byteAt : MethodName := ⟨RX6, "byteAt", "(I)I"⟩
abbrev cX6_advances : ByteArray := prog_8_method_19_code
def yX6_advances : MethodName := ⟨RX6, "advances", "()V"⟩
abbrev cX6_isWell : ByteArray := prog_8_method_20_code
def yX6_isWell : MethodName := ⟨RX6, "isWell", "()Z"⟩
abbrev cX6_takes : ByteArray := prog_8_method_21_code
def yX6_takes : MethodName := ⟨RX6, "takes", "(ZI)I"⟩
abbrev cX6_figure : ByteArray := prog_8_method_22_code
def yX6_figure : MethodName := ⟨RX6, "figure", "(II)I"⟩
abbrev cX6_kindOf : ByteArray := prog_8_method_23_code
def yX6_kindOf : MethodName := ⟨RX6, "kindOf", "(I)I"⟩
abbrev cX6_follows : ByteArray := prog_8_method_24_code
def yX6_follows : MethodName := ⟨RX6, "follows", "(II)I"⟩
abbrev cX6_readsCell : ByteArray := prog_8_method_25_code
def yX6_readsCell : MethodName := ⟨RX6, "readsCell", "()V"⟩
abbrev cX6_readsWord : ByteArray := prog_8_method_26_code
def yX6_readsWord : MethodName := ⟨RX6, "readsWord", "()V"⟩
abbrev cX6_must : ByteArray := prog_8_method_27_code
def yX6_must : MethodName := ⟨RX6, "must", "(Z)V"⟩
abbrev cX6_river : ByteArray := prog_8_method_28_code
def yX6_river : MethodName := ⟨RX6, "river", "()I"⟩
abbrev cX6_fault : ByteArray := prog_8_method_29_code
def yX6_fault : MethodName := ⟨RX6, "fault", "()I"⟩
abbrev cX6_isRiver : ByteArray := prog_8_method_30_code
def yX6_isRiver : MethodName := ⟨RX6, "isRiver", "()Z"⟩
abbrev cX6_isWord : ByteArray := prog_8_method_31_code
def yX6_isWord : MethodName := ⟨RX6, "isWord", "(I)Z"⟩
abbrev cX6_isCell : ByteArray := prog_8_method_32_code
def yX6_isCell : MethodName := ⟨RX6, "isCell", "(I)Z"⟩
abbrev cX6_isGone : ByteArray := prog_8_method_33_code
def yX6_isGone : MethodName := ⟨RX6, "isGone", "(I)Z"⟩
abbrev cX6_pace : ByteArray := prog_8_method_34_code
def yX6_pace : MethodName := ⟨RX6, "pace", "([II)I"⟩
abbrev cX6_upFrom : ByteArray := prog_8_method_35_code
def yX6_upFrom : MethodName := ⟨RX6, "upFrom", "([III)I"⟩
abbrev cX6_goesTo : ByteArray := prog_8_method_36_code
def yX6_goesTo : MethodName := ⟨RX6, "goesTo", "([II)I"⟩
abbrev cX6_goes : ByteArray := prog_8_method_37_code
def yX6_goes : MethodName := ⟨RX6, "goes", "([II)V"⟩
abbrev cX6_passes : ByteArray := prog_8_method_38_code
def yX6_passes : MethodName := ⟨RX6, "passes", "([I)V"⟩
abbrev cX6_goneOf : ByteArray := prog_8_method_39_code
def yX6_goneOf : MethodName := ⟨RX6, "goneOf", "([I)I"⟩
abbrev cX6_sizes : ByteArray := prog_8_method_40_code
def yX6_sizes : MethodName := ⟨RX6, "sizes", "([I)I"⟩
abbrev cX6_all : ByteArray := prog_8_method_41_code
def yX6_all : MethodName := ⟨RX6, "all", "([I)I"⟩
abbrev cX6_whereIs : ByteArray := prog_8_method_42_code
def yX6_whereIs : MethodName := ⟨RX6, "whereIs", "([II)I"⟩
abbrev cX6_says : ByteArray := prog_8_method_43_code
def yX6_says : MethodName := ⟨RX6, "says", "([IIII)V"⟩
abbrev cX6_notes : ByteArray := prog_8_method_44_code
def yX6_notes : MethodName := ⟨RX6, "notes", "()V"⟩
abbrev cX6_minutes : ByteArray := prog_8_method_45_code
def yX6_minutes : MethodName := ⟨RX6, "minutes", "(I)I"⟩
abbrev cX6_say : ByteArray := prog_8_method_46_code
def yX6_say : MethodName := ⟨RX6, "say", "(III)I"⟩
abbrev cX6_speed : ByteArray := prog_8_method_47_code
def yX6_speed : MethodName := ⟨RX6, "speed", "(II)I"⟩
abbrev cX6_rain : ByteArray := prog_8_method_48_code
def yX6_rain : MethodName := ⟨RX6, "rain", "(I)I"⟩
abbrev cX6_undo : ByteArray := prog_8_method_49_code
def yX6_undo : MethodName := ⟨RX6, "undo", "()I"⟩
abbrev cX6_word : ByteArray := prog_8_method_50_code
def yX6_word : MethodName := ⟨RX6, "word", "(II)I"⟩
abbrev cX6_wordsIn : ByteArray := prog_8_method_51_code
def yX6_wordsIn : MethodName := ⟨RX6, "wordsIn", "(I)I"⟩
abbrev cX6_cell : ByteArray := prog_8_method_52_code
def yX6_cell : MethodName := ⟨RX6, "cell", "(II)I"⟩
abbrev cX6_goesOn : ByteArray := prog_8_method_53_code
def yX6_goesOn : MethodName := ⟨RX6, "goesOn", "(I)V"⟩
abbrev cX6_ahead : ByteArray := prog_8_method_54_code
def yX6_ahead : MethodName := ⟨RX6, "ahead", "(III)I"⟩
abbrev cX6_quarrel : ByteArray := prog_8_method_55_code
def yX6_quarrel : MethodName := ⟨RX6, "quarrel", "(I)I"⟩
abbrev cX6_over : ByteArray := prog_8_method_56_code
def yX6_over : MethodName := ⟨RX6, "over", "(I)I"⟩
abbrev cX6_kept : ByteArray := prog_8_method_57_code
def yX6_kept : MethodName := ⟨RX6, "kept", "()I"⟩
abbrev cX6_isNear : ByteArray := prog_8_method_58_code
def yX6_isNear : MethodName := ⟨RX6, "isNear", "(I)Z"⟩
abbrev cX6_calm : ByteArray := prog_8_method_59_code
def yX6_calm : MethodName := ⟨RX6, "calm", "(II)I"⟩
abbrev cX6_swift : ByteArray := prog_8_method_60_code
def yX6_swift : MethodName := ⟨RX6, "swift", "(II)I"⟩
abbrev cX6_stir : ByteArray := prog_8_method_61_code
def yX6_stir : MethodName := ⟨RX6, "stir", "(III)I"⟩
abbrev cX6_share : ByteArray := prog_8_method_62_code
def yX6_share : MethodName := ⟨RX6, "share", "(II)I"⟩
abbrev cX6_isSeen : ByteArray := prog_8_method_63_code
def yX6_isSeen : MethodName := ⟨RX6, "isSeen", "(IIIII)Z"⟩
abbrev cX6_fits : ByteArray := prog_8_method_64_code
def yX6_fits : MethodName := ⟨RX6, "fits", "(IIIII)I"⟩
abbrev cX6_chance : ByteArray := prog_8_method_65_code
def yX6_chance : MethodName := ⟨RX6, "chance", "(IIII)I"⟩
abbrev cX6_drawn : ByteArray := prog_8_method_66_code
def yX6_drawn : MethodName := ⟨RX6, "drawn", "(III)I"⟩
abbrev cX6_image : ByteArray := prog_8_method_67_code
def yX6_image : MethodName := ⟨RX6, "image", "(I)I"⟩
abbrev cX6_restore : ByteArray := prog_8_method_68_code
def yX6_restore : MethodName := ⟨RX6, "restore", "(I)I"⟩
abbrev cX6_kindIn : ByteArray := prog_8_method_69_code
def yX6_kindIn : MethodName := ⟨RX6, "kindIn", "(I)I"⟩
abbrev cX6_kind : ByteArray := prog_8_method_70_code
def yX6_kind : MethodName := ⟨RX6, "kind", "(I)I"⟩
abbrev cX6_as : ByteArray := prog_8_method_71_code
def yX6_as : MethodName := ⟨RX6, "as", "(II)I"⟩
abbrev cX6_begins : ByteArray := prog_8_method_72_code
def yX6_begins : MethodName := ⟨RX6, "begins", "(I)V"⟩
abbrev cX6_stickMark : ByteArray := prog_8_method_73_code
def yX6_stickMark : MethodName := ⟨RX6, "stickMark", "(I)I"⟩
abbrev cX6_salmonSize : ByteArray := prog_8_method_74_code
def yX6_salmonSize : MethodName := ⟨RX6, "salmonSize", "(I)I"⟩
abbrev cX6_stickSize : ByteArray := prog_8_method_75_code
def yX6_stickSize : MethodName := ⟨RX6, "stickSize", "(I)I"⟩
abbrev cX6_salmonMark : ByteArray := prog_8_method_76_code
def yX6_salmonMark : MethodName := ⟨RX6, "salmonMark", "(I)I"⟩
abbrev cX6_ask : ByteArray := prog_8_method_77_code
def yX6_ask : MethodName := ⟨RX6, "ask", "(II)I"⟩
abbrev cX6_trace : ByteArray := prog_8_method_78_code
def yX6_trace : MethodName := ⟨RX6, "trace", "(I)I"⟩
abbrev cX6_count : ByteArray := prog_8_method_79_code
def yX6_count : MethodName := ⟨RX6, "count", "(I)I"⟩
abbrev cX6_status : ByteArray := prog_8_method_80_code
def yX6_status : MethodName := ⟨RX6, "status", "()I"⟩
def RJ6 : String := "java/lang/Integer"
def TJ6 : u_T := fun k => match k with
  | _ => ("", "", "", false)
def tyJ6 : Nat → FieldType := fun k => match k with
  | _ => .int
abbrev wsJ60 : List Cond := u_ws RJ6 TJ6 0
theorem nmJ6 : ∀ a, a < 0 → ∀ b, b < 0 → a ≠ b → (TJ6 a).2.1 ≠ (TJ6 b).2.1 := by decide +kernel
theorem tyJ6_ok : ∀ k, k < 0 → parseFieldDescriptor (TJ6 k).2.2.1 = some (tyJ6 k) := by decide +kernel
abbrev cJ6_bitCount_0f7a4 : ByteArray := prog_9_method_49_code
def yJ6_bitCount_0f7a4 : MethodName := ⟨RJ6, "bitCount", "(I)I"⟩
def RJ9 : String := "java/lang/Math"
def TJ9 : u_T := fun k => match k with
  | _ => ("", "", "", false)
def tyJ9 : Nat → FieldType := fun k => match k with
  | _ => .int
abbrev wsJ90 : List Cond := u_ws RJ9 TJ9 0
theorem nmJ9 : ∀ a, a < 0 → ∀ b, b < 0 → a ≠ b → (TJ9 a).2.1 ≠ (TJ9 b).2.1 := by decide +kernel
theorem tyJ9_ok : ∀ k, k < 0 → parseFieldDescriptor (TJ9 k).2.2.1 = some (tyJ9 k) := by decide +kernel
abbrev cJ9_min_7cf53 : ByteArray := prog_10_method_69_code
def yJ9_min_7cf53 : MethodName := ⟨RJ9, "min", "(II)I"⟩
def RJ10 : String := "java/lang/System"
def TJ10 : u_T := fun k => match k with
  | _ => ("", "", "", false)
def tyJ10 : Nat → FieldType := fun k => match k with
  | _ => .int
abbrev wsJ100 : List Cond := u_ws RJ10 TJ10 0
theorem nmJ10 : ∀ a, a < 0 → ∀ b, b < 0 → a ≠ b → (TJ10 a).2.1 ≠ (TJ10 b).2.1 := by decide +kernel
theorem tyJ10_ok : ∀ k, k < 0 → parseFieldDescriptor (TJ10 k).2.2.1 = some (tyJ10 k) := by decide +kernel
def RJ7 : String := "java/util/Arrays"
def TJ7 : u_T := fun k => match k with
  | _ => ("", "", "", false)
def tyJ7 : Nat → FieldType := fun k => match k with
  | _ => .int
abbrev wsJ70 : List Cond := u_ws RJ7 TJ7 0
theorem nmJ7 : ∀ a, a < 0 → ∀ b, b < 0 → a ≠ b → (TJ7 a).2.1 ≠ (TJ7 b).2.1 := by decide +kernel
theorem tyJ7_ok : ∀ k, k < 0 → parseFieldDescriptor (TJ7 k).2.2.1 = some (tyJ7 k) := by decide +kernel
abbrev cJ7_fill_53178 : ByteArray := prog_12_method_103_code
def yJ7_fill_53178 : MethodName := ⟨RJ7, "fill", "([II)V"⟩
def RL : String := "WeirWordsLaw"
abbrev cL_law : ByteArray := code
def yL_law : MethodName := ⟨RL, "law", "([I)Z"⟩
end
section
theorem dX0_init_0 : decode cX0_init 0 = .ok (.aload_n 0, 1) := by decide +kernel
theorem dX0_init_1 : decode cX0_init 1 = .ok (.invokespecial 1, 3) := by decide +kernel
theorem dX0_init_4 : decode cX0_init 4 = .ok (.aload_n 0, 1) := by decide +kernel
theorem dX0_init_5 : decode cX0_init 5 = .ok (.bipush 16, 2) := by decide +kernel
theorem dX0_init_7 : decode cX0_init 7 = .ok (.newarray .int, 2) := by decide +kernel
theorem dX0_init_9 : decode cX0_init 9 = .ok (.putfield 9, 3) := by decide +kernel
theorem dX0_init_12 : decode cX0_init 12 = .ok (.aload_n 0, 1) := by decide +kernel
theorem dX0_init_13 : decode cX0_init 13 = .ok (.iconst 0, 1) := by decide +kernel
theorem dX0_init_14 : decode cX0_init 14 = .ok (.putfield 13, 3) := by decide +kernel
theorem dX0_init_17 : decode cX0_init 17 = .ok (.aload_n 0, 1) := by decide +kernel
theorem dX0_init_18 : decode cX0_init 18 = .ok (.iconst 0, 1) := by decide +kernel
theorem dX0_init_19 : decode cX0_init 19 = .ok (.putfield 17, 3) := by decide +kernel
theorem dX0_init_22 : decode cX0_init 22 = .ok (.aload_n 0, 1) := by decide +kernel
theorem dX0_init_23 : decode cX0_init 23 = .ok (.iconst 0, 1) := by decide +kernel
theorem dX0_init_24 : decode cX0_init 24 = .ok (.putfield 22, 3) := by decide +kernel
theorem dX0_init_27 : decode cX0_init 27 = .ok (.aload_n 0, 1) := by decide +kernel
theorem dX0_init_28 : decode cX0_init 28 = .ok (.iconst 0, 1) := by decide +kernel
theorem dX0_init_29 : decode cX0_init 29 = .ok (.putfield 25, 3) := by decide +kernel
theorem dX0_init_32 : decode cX0_init 32 = .ok (.aload_n 0, 1) := by decide +kernel
theorem dX0_init_33 : decode cX0_init 33 = .ok (.iconst 0, 1) := by decide +kernel
theorem dX0_init_34 : decode cX0_init 34 = .ok (.putfield 28, 3) := by decide +kernel
theorem dX0_init_37 : decode cX0_init 37 = .ok (.return_, 1) := by decide +kernel
theorem dX0_begin_0 : decode cX0_begin 0 = .ok (.aload_n 0, 1) := by decide +kernel
theorem dX0_begin_1 : decode cX0_begin 1 = .ok (.iconst 0, 1) := by decide +kernel
theorem dX0_begin_2 : decode cX0_begin 2 = .ok (.putfield 13, 3) := by decide +kernel
theorem dX0_begin_5 : decode cX0_begin 5 = .ok (.aload_n 0, 1) := by decide +kernel
theorem dX0_begin_6 : decode cX0_begin 6 = .ok (.iload_n 2, 1) := by decide +kernel
theorem dX0_begin_7 : decode cX0_begin 7 = .ok (.putfield 17, 3) := by decide +kernel
theorem dX0_begin_10 : decode cX0_begin 10 = .ok (.aload_n 0, 1) := by decide +kernel
theorem dX0_begin_11 : decode cX0_begin 11 = .ok (.aload_n 1, 1) := by decide +kernel
theorem dX0_begin_12 : decode cX0_begin 12 = .ok (.getfield 31, 3) := by decide +kernel
theorem dX0_begin_15 : decode cX0_begin 15 = .ok (.iload_n 2, 1) := by decide +kernel
theorem dX0_begin_16 : decode cX0_begin 16 = .ok (.iaload, 1) := by decide +kernel
theorem dX0_begin_17 : decode cX0_begin 17 = .ok (.putfield 22, 3) := by decide +kernel
theorem dX0_begin_20 : decode cX0_begin 20 = .ok (.aload_n 0, 1) := by decide +kernel
theorem dX0_begin_21 : decode cX0_begin 21 = .ok (.aload_n 1, 1) := by decide +kernel
theorem dX0_begin_22 : decode cX0_begin 22 = .ok (.getfield 36, 3) := by decide +kernel
theorem dX0_begin_25 : decode cX0_begin 25 = .ok (.iload_n 2, 1) := by decide +kernel
theorem dX0_begin_26 : decode cX0_begin 26 = .ok (.iaload, 1) := by decide +kernel
theorem dX0_begin_27 : decode cX0_begin 27 = .ok (.invokestatic 39, 3) := by decide +kernel
theorem dX0_begin_30 : decode cX0_begin 30 = .ok (.putfield 25, 3) := by decide +kernel
theorem dX0_begin_33 : decode cX0_begin 33 = .ok (.aload_n 0, 1) := by decide +kernel
theorem dX0_begin_34 : decode cX0_begin 34 = .ok (.aload_n 1, 1) := by decide +kernel
theorem dX0_begin_35 : decode cX0_begin 35 = .ok (.getfield 36, 3) := by decide +kernel
theorem dX0_begin_38 : decode cX0_begin 38 = .ok (.iload_n 2, 1) := by decide +kernel
theorem dX0_begin_39 : decode cX0_begin 39 = .ok (.iaload, 1) := by decide +kernel
theorem dX0_begin_40 : decode cX0_begin 40 = .ok (.invokestatic 43, 3) := by decide +kernel
theorem dX0_begin_43 : decode cX0_begin 43 = .ok (.putfield 28, 3) := by decide +kernel
theorem dX0_begin_46 : decode cX0_begin 46 = .ok (.return_, 1) := by decide +kernel
theorem dX0_hasLeft_0 : decode cX0_hasLeft 0 = .ok (.iload_n 1, 1) := by decide +kernel
theorem dX0_hasLeft_1 : decode cX0_hasLeft 1 = .ok (.ifCond .lt 15, 3) := by decide +kernel
theorem dX0_hasLeft_4 : decode cX0_hasLeft 4 = .ok (.iload_n 1, 1) := by decide +kernel
theorem dX0_hasLeft_5 : decode cX0_hasLeft 5 = .ok (.aload_n 0, 1) := by decide +kernel
theorem dX0_hasLeft_6 : decode cX0_hasLeft 6 = .ok (.getfield 13, 3) := by decide +kernel
theorem dX0_hasLeft_9 : decode cX0_hasLeft 9 = .ok (.if_icmp .ge 7, 3) := by decide +kernel
theorem dX0_hasLeft_12 : decode cX0_hasLeft 12 = .ok (.iconst 1, 1) := by decide +kernel
theorem dX0_hasLeft_13 : decode cX0_hasLeft 13 = .ok (.goto 4, 3) := by decide +kernel
theorem dX0_hasLeft_16 : decode cX0_hasLeft 16 = .ok (.iconst 0, 1) := by decide +kernel
theorem dX0_hasLeft_17 : decode cX0_hasLeft 17 = .ok (.ireturn, 1) := by decide +kernel
theorem dX0_askSize_0 : decode cX0_askSize 0 = .ok (.aload_n 0, 1) := by decide +kernel
theorem dX0_askSize_1 : decode cX0_askSize 1 = .ok (.getfield 22, 3) := by decide +kernel
theorem dX0_askSize_4 : decode cX0_askSize 4 = .ok (.tableswitch 59 1 5 #[36, 41, 36, 54, 54], 36) := by decide +kernel
theorem dX0_askSize_40 : decode cX0_askSize 40 = .ok (.aload_n 0, 1) := by decide +kernel
theorem dX0_askSize_41 : decode cX0_askSize 41 = .ok (.invokevirtual 46, 3) := by decide +kernel
theorem dX0_askSize_44 : decode cX0_askSize 44 = .ok (.ireturn, 1) := by decide +kernel
theorem dX0_askSize_45 : decode cX0_askSize 45 = .ok (.aload_n 0, 1) := by decide +kernel
theorem dX0_askSize_46 : decode cX0_askSize 46 = .ok (.bipush 12, 2) := by decide +kernel
theorem dX0_askSize_48 : decode cX0_askSize 48 = .ok (.invokevirtual 50, 3) := by decide +kernel
theorem dX0_askSize_51 : decode cX0_askSize 51 = .ok (.iconst 0, 1) := by decide +kernel
theorem dX0_askSize_52 : decode cX0_askSize 52 = .ok (.aload_n 0, 1) := by decide +kernel
theorem dX0_askSize_53 : decode cX0_askSize 53 = .ok (.invokevirtual 46, 3) := by decide +kernel
theorem dX0_askSize_56 : decode cX0_askSize 56 = .ok (.isub, 1) := by decide +kernel
theorem dX0_askSize_57 : decode cX0_askSize 57 = .ok (.ireturn, 1) := by decide +kernel
theorem dX0_askSize_58 : decode cX0_askSize 58 = .ok (.aload_n 0, 1) := by decide +kernel
theorem dX0_askSize_59 : decode cX0_askSize 59 = .ok (.invokevirtual 54, 3) := by decide +kernel
theorem dX0_askSize_62 : decode cX0_askSize 62 = .ok (.ireturn, 1) := by decide +kernel
theorem dX0_askSize_63 : decode cX0_askSize 63 = .ok (.aload_n 0, 1) := by decide +kernel
theorem dX0_askSize_64 : decode cX0_askSize 64 = .ok (.invokevirtual 57, 3) := by decide +kernel
theorem dX0_askSize_67 : decode cX0_askSize 67 = .ok (.ireturn, 1) := by decide +kernel
theorem dX0_askMark_0 : decode cX0_askMark 0 = .ok (.aload_n 0, 1) := by decide +kernel
theorem dX0_askMark_1 : decode cX0_askMark 1 = .ok (.getfield 22, 3) := by decide +kernel
theorem dX0_askMark_4 : decode cX0_askMark 4 = .ok (.tableswitch 46 1 5 #[36, 36, 36, 41, 41], 36) := by decide +kernel
theorem dX0_askMark_40 : decode cX0_askMark 40 = .ok (.aload_n 0, 1) := by decide +kernel
theorem dX0_askMark_41 : decode cX0_askMark 41 = .ok (.invokevirtual 60, 3) := by decide +kernel
theorem dX0_askMark_44 : decode cX0_askMark 44 = .ok (.ireturn, 1) := by decide +kernel
theorem dX0_askMark_45 : decode cX0_askMark 45 = .ok (.aload_n 0, 1) := by decide +kernel
theorem dX0_askMark_46 : decode cX0_askMark 46 = .ok (.invokevirtual 63, 3) := by decide +kernel
theorem dX0_askMark_49 : decode cX0_askMark 49 = .ok (.ireturn, 1) := by decide +kernel
theorem dX0_askMark_50 : decode cX0_askMark 50 = .ok (.aload_n 0, 1) := by decide +kernel
theorem dX0_askMark_51 : decode cX0_askMark 51 = .ok (.invokevirtual 66, 3) := by decide +kernel
theorem dX0_askMark_54 : decode cX0_askMark 54 = .ok (.ireturn, 1) := by decide +kernel
theorem dX0_anyStickMark_0 : decode cX0_anyStickMark 0 = .ok (.aload_n 0, 1) := by decide +kernel
theorem dX0_anyStickMark_1 : decode cX0_anyStickMark 1 = .ok (.getfield 22, 3) := by decide +kernel
theorem dX0_anyStickMark_4 : decode cX0_anyStickMark 4 = .ok (.lookupswitch 56 #[(2, 28), (3, 41)], 28) := by decide +kernel
theorem dX0_anyStickMark_32 : decode cX0_anyStickMark 32 = .ok (.aload_n 0, 1) := by decide +kernel
theorem dX0_anyStickMark_33 : decode cX0_anyStickMark 33 = .ok (.bipush 24, 2) := by decide +kernel
theorem dX0_anyStickMark_35 : decode cX0_anyStickMark 35 = .ok (.invokevirtual 50, 3) := by decide +kernel
theorem dX0_anyStickMark_38 : decode cX0_anyStickMark 38 = .ok (.iconst 2, 1) := by decide +kernel
theorem dX0_anyStickMark_39 : decode cX0_anyStickMark 39 = .ok (.aload_n 0, 1) := by decide +kernel
theorem dX0_anyStickMark_40 : decode cX0_anyStickMark 40 = .ok (.invokevirtual 69, 3) := by decide +kernel
theorem dX0_anyStickMark_43 : decode cX0_anyStickMark 43 = .ok (.imul, 1) := by decide +kernel
theorem dX0_anyStickMark_44 : decode cX0_anyStickMark 44 = .ok (.ireturn, 1) := by decide +kernel
theorem dX0_anyStickMark_45 : decode cX0_anyStickMark 45 = .ok (.aload_n 0, 1) := by decide +kernel
theorem dX0_anyStickMark_46 : decode cX0_anyStickMark 46 = .ok (.bipush 22, 2) := by decide +kernel
theorem dX0_anyStickMark_48 : decode cX0_anyStickMark 48 = .ok (.invokevirtual 50, 3) := by decide +kernel
theorem dX0_anyStickMark_51 : decode cX0_anyStickMark 51 = .ok (.aload_n 0, 1) := by decide +kernel
theorem dX0_anyStickMark_52 : decode cX0_anyStickMark 52 = .ok (.invokevirtual 69, 3) := by decide +kernel
theorem dX0_anyStickMark_55 : decode cX0_anyStickMark 55 = .ok (.sipush 1000, 3) := by decide +kernel
theorem dX0_anyStickMark_58 : decode cX0_anyStickMark 58 = .ok (.isub, 1) := by decide +kernel
theorem dX0_anyStickMark_59 : decode cX0_anyStickMark 59 = .ok (.ireturn, 1) := by decide +kernel
theorem dX0_anyStickMark_60 : decode cX0_anyStickMark 60 = .ok (.aload_n 0, 1) := by decide +kernel
theorem dX0_anyStickMark_61 : decode cX0_anyStickMark 61 = .ok (.invokevirtual 69, 3) := by decide +kernel
theorem dX0_anyStickMark_64 : decode cX0_anyStickMark 64 = .ok (.ireturn, 1) := by decide +kernel
theorem dX0_salmonOrEelSize_0 : decode cX0_salmonOrEelSize 0 = .ok (.aload_n 0, 1) := by decide +kernel
theorem dX0_salmonOrEelSize_1 : decode cX0_salmonOrEelSize 1 = .ok (.getfield 22, 3) := by decide +kernel
theorem dX0_salmonOrEelSize_4 : decode cX0_salmonOrEelSize 4 = .ok (.iconst 5, 1) := by decide +kernel
theorem dX0_salmonOrEelSize_5 : decode cX0_salmonOrEelSize 5 = .ok (.if_icmp .ne 16, 3) := by decide +kernel
theorem dX0_salmonOrEelSize_8 : decode cX0_salmonOrEelSize 8 = .ok (.aload_n 0, 1) := by decide +kernel
theorem dX0_salmonOrEelSize_9 : decode cX0_salmonOrEelSize 9 = .ok (.bipush 14, 2) := by decide +kernel
theorem dX0_salmonOrEelSize_11 : decode cX0_salmonOrEelSize 11 = .ok (.invokevirtual 50, 3) := by decide +kernel
theorem dX0_salmonOrEelSize_14 : decode cX0_salmonOrEelSize 14 = .ok (.iconst 2, 1) := by decide +kernel
theorem dX0_salmonOrEelSize_15 : decode cX0_salmonOrEelSize 15 = .ok (.aload_n 0, 1) := by decide +kernel
theorem dX0_salmonOrEelSize_16 : decode cX0_salmonOrEelSize 16 = .ok (.invokevirtual 72, 3) := by decide +kernel
theorem dX0_salmonOrEelSize_19 : decode cX0_salmonOrEelSize 19 = .ok (.imul, 1) := by decide +kernel
theorem dX0_salmonOrEelSize_20 : decode cX0_salmonOrEelSize 20 = .ok (.ireturn, 1) := by decide +kernel
theorem dX0_salmonOrEelSize_21 : decode cX0_salmonOrEelSize 21 = .ok (.aload_n 0, 1) := by decide +kernel
theorem dX0_salmonOrEelSize_22 : decode cX0_salmonOrEelSize 22 = .ok (.invokevirtual 72, 3) := by decide +kernel
theorem dX0_salmonOrEelSize_25 : decode cX0_salmonOrEelSize 25 = .ok (.ireturn, 1) := by decide +kernel
theorem dX0_stickSize_0 : decode cX0_stickSize 0 = .ok (.aload_n 0, 1) := by decide +kernel
theorem dX0_stickSize_1 : decode cX0_stickSize 1 = .ok (.bipush 11, 2) := by decide +kernel
theorem dX0_stickSize_3 : decode cX0_stickSize 3 = .ok (.invokevirtual 50, 3) := by decide +kernel
theorem dX0_stickSize_6 : decode cX0_stickSize 6 = .ok (.aload_n 0, 1) := by decide +kernel
theorem dX0_stickSize_7 : decode cX0_stickSize 7 = .ok (.invokevirtual 57, 3) := by decide +kernel
theorem dX0_stickSize_10 : decode cX0_stickSize 10 = .ok (.istore_n 1, 1) := by decide +kernel
theorem dX0_stickSize_11 : decode cX0_stickSize 11 = .ok (.iload_n 1, 1) := by decide +kernel
theorem dX0_stickSize_12 : decode cX0_stickSize 12 = .ok (.aload_n 0, 1) := by decide +kernel
theorem dX0_stickSize_13 : decode cX0_stickSize 13 = .ok (.invokevirtual 60, 3) := by decide +kernel
theorem dX0_stickSize_16 : decode cX0_stickSize 16 = .ok (.iadd, 1) := by decide +kernel
theorem dX0_stickSize_17 : decode cX0_stickSize 17 = .ok (.ireturn, 1) := by decide +kernel
theorem dX0_salmonSize_0 : decode cX0_salmonSize 0 = .ok (.aload_n 0, 1) := by decide +kernel
theorem dX0_salmonSize_1 : decode cX0_salmonSize 1 = .ok (.bipush 13, 2) := by decide +kernel
theorem dX0_salmonSize_3 : decode cX0_salmonSize 3 = .ok (.invokevirtual 50, 3) := by decide +kernel
theorem dX0_salmonSize_6 : decode cX0_salmonSize 6 = .ok (.aload_n 0, 1) := by decide +kernel
theorem dX0_salmonSize_7 : decode cX0_salmonSize 7 = .ok (.invokevirtual 57, 3) := by decide +kernel
theorem dX0_salmonSize_10 : decode cX0_salmonSize 10 = .ok (.bipush 100, 2) := by decide +kernel
theorem dX0_salmonSize_12 : decode cX0_salmonSize 12 = .ok (.isub, 1) := by decide +kernel
theorem dX0_salmonSize_13 : decode cX0_salmonSize 13 = .ok (.ireturn, 1) := by decide +kernel
theorem dX0_lentSize_0 : decode cX0_lentSize 0 = .ok (.aload_n 0, 1) := by decide +kernel
theorem dX0_lentSize_1 : decode cX0_lentSize 1 = .ok (.bipush 10, 2) := by decide +kernel
theorem dX0_lentSize_3 : decode cX0_lentSize 3 = .ok (.invokevirtual 50, 3) := by decide +kernel
theorem dX0_lentSize_6 : decode cX0_lentSize 6 = .ok (.aload_n 0, 1) := by decide +kernel
theorem dX0_lentSize_7 : decode cX0_lentSize 7 = .ok (.getfield 25, 3) := by decide +kernel
theorem dX0_lentSize_10 : decode cX0_lentSize 10 = .ok (.ireturn, 1) := by decide +kernel
theorem dX0_stickMark_0 : decode cX0_stickMark 0 = .ok (.aload_n 0, 1) := by decide +kernel
theorem dX0_stickMark_1 : decode cX0_stickMark 1 = .ok (.bipush 21, 2) := by decide +kernel
theorem dX0_stickMark_3 : decode cX0_stickMark 3 = .ok (.invokevirtual 50, 3) := by decide +kernel
theorem dX0_stickMark_6 : decode cX0_stickMark 6 = .ok (.aload_n 0, 1) := by decide +kernel
theorem dX0_stickMark_7 : decode cX0_stickMark 7 = .ok (.invokevirtual 66, 3) := by decide +kernel
theorem dX0_stickMark_10 : decode cX0_stickMark 10 = .ok (.aload_n 0, 1) := by decide +kernel
theorem dX0_stickMark_11 : decode cX0_stickMark 11 = .ok (.getfield 28, 3) := by decide +kernel
theorem dX0_stickMark_14 : decode cX0_stickMark 14 = .ok (.iadd, 1) := by decide +kernel
theorem dX0_stickMark_15 : decode cX0_stickMark 15 = .ok (.ireturn, 1) := by decide +kernel
theorem dX0_salmonMark_0 : decode cX0_salmonMark 0 = .ok (.aload_n 0, 1) := by decide +kernel
theorem dX0_salmonMark_1 : decode cX0_salmonMark 1 = .ok (.bipush 23, 2) := by decide +kernel
theorem dX0_salmonMark_3 : decode cX0_salmonMark 3 = .ok (.invokevirtual 50, 3) := by decide +kernel
theorem dX0_salmonMark_6 : decode cX0_salmonMark 6 = .ok (.aload_n 0, 1) := by decide +kernel
theorem dX0_salmonMark_7 : decode cX0_salmonMark 7 = .ok (.invokevirtual 66, 3) := by decide +kernel
theorem dX0_salmonMark_10 : decode cX0_salmonMark 10 = .ok (.istore_n 1, 1) := by decide +kernel
theorem dX0_salmonMark_11 : decode cX0_salmonMark 11 = .ok (.iload_n 1, 1) := by decide +kernel
theorem dX0_salmonMark_12 : decode cX0_salmonMark 12 = .ok (.aload_n 0, 1) := by decide +kernel
theorem dX0_salmonMark_13 : decode cX0_salmonMark 13 = .ok (.invokevirtual 54, 3) := by decide +kernel
theorem dX0_salmonMark_16 : decode cX0_salmonMark 16 = .ok (.isub, 1) := by decide +kernel
theorem dX0_salmonMark_17 : decode cX0_salmonMark 17 = .ok (.ireturn, 1) := by decide +kernel
theorem dX0_lentMark_0 : decode cX0_lentMark 0 = .ok (.aload_n 0, 1) := by decide +kernel
theorem dX0_lentMark_1 : decode cX0_lentMark 1 = .ok (.bipush 20, 2) := by decide +kernel
theorem dX0_lentMark_3 : decode cX0_lentMark 3 = .ok (.invokevirtual 50, 3) := by decide +kernel
theorem dX0_lentMark_6 : decode cX0_lentMark 6 = .ok (.aload_n 0, 1) := by decide +kernel
theorem dX0_lentMark_7 : decode cX0_lentMark 7 = .ok (.getfield 17, 3) := by decide +kernel
theorem dX0_lentMark_10 : decode cX0_lentMark 10 = .ok (.ireturn, 1) := by decide +kernel
theorem dX0_leave_0 : decode cX0_leave 0 = .ok (.aload_n 0, 1) := by decide +kernel
theorem dX0_leave_1 : decode cX0_leave 1 = .ok (.getfield 13, 3) := by decide +kernel
theorem dX0_leave_4 : decode cX0_leave 4 = .ok (.bipush 16, 2) := by decide +kernel
theorem dX0_leave_6 : decode cX0_leave 6 = .ok (.if_icmp .ge 23, 3) := by decide +kernel
theorem dX0_leave_9 : decode cX0_leave 9 = .ok (.aload_n 0, 1) := by decide +kernel
theorem dX0_leave_10 : decode cX0_leave 10 = .ok (.getfield 9, 3) := by decide +kernel
theorem dX0_leave_13 : decode cX0_leave 13 = .ok (.aload_n 0, 1) := by decide +kernel
theorem dX0_leave_14 : decode cX0_leave 14 = .ok (.getfield 13, 3) := by decide +kernel
theorem dX0_leave_17 : decode cX0_leave 17 = .ok (.iload_n 1, 1) := by decide +kernel
theorem dX0_leave_18 : decode cX0_leave 18 = .ok (.iastore, 1) := by decide +kernel
theorem dX0_leave_19 : decode cX0_leave 19 = .ok (.aload_n 0, 1) := by decide +kernel
theorem dX0_leave_20 : decode cX0_leave 20 = .ok (.dup, 1) := by decide +kernel
theorem dX0_leave_21 : decode cX0_leave 21 = .ok (.getfield 13, 3) := by decide +kernel
theorem dX0_leave_24 : decode cX0_leave 24 = .ok (.iconst 1, 1) := by decide +kernel
theorem dX0_leave_25 : decode cX0_leave 25 = .ok (.iadd, 1) := by decide +kernel
theorem dX0_leave_26 : decode cX0_leave 26 = .ok (.putfield 13, 3) := by decide +kernel
theorem dX0_leave_29 : decode cX0_leave 29 = .ok (.return_, 1) := by decide +kernel
theorem dX1_isOne_0 : decode cX1_isOne 0 = .ok (.iload_n 1, 1) := by decide +kernel
theorem dX1_isOne_1 : decode cX1_isOne 1 = .ok (.ifCond .eq 17, 3) := by decide +kernel
theorem dX1_isOne_4 : decode cX1_isOne 4 = .ok (.iload_n 1, 1) := by decide +kernel
theorem dX1_isOne_5 : decode cX1_isOne 5 = .ok (.iload_n 0, 1) := by decide +kernel
theorem dX1_isOne_6 : decode cX1_isOne 6 = .ok (.if_icmp .eq 12, 3) := by decide +kernel
theorem dX1_isOne_9 : decode cX1_isOne 9 = .ok (.iload_n 1, 1) := by decide +kernel
theorem dX1_isOne_10 : decode cX1_isOne 10 = .ok (.getstatic 7, 3) := by decide +kernel
theorem dX1_isOne_13 : decode cX1_isOne 13 = .ok (.iload_n 0, 1) := by decide +kernel
theorem dX1_isOne_14 : decode cX1_isOne 14 = .ok (.iaload, 1) := by decide +kernel
theorem dX1_isOne_15 : decode cX1_isOne 15 = .ok (.if_icmp .ne 7, 3) := by decide +kernel
theorem dX1_isOne_18 : decode cX1_isOne 18 = .ok (.iconst 1, 1) := by decide +kernel
theorem dX1_isOne_19 : decode cX1_isOne 19 = .ok (.goto 4, 3) := by decide +kernel
theorem dX1_isOne_22 : decode cX1_isOne 22 = .ok (.iconst 0, 1) := by decide +kernel
theorem dX1_isOne_23 : decode cX1_isOne 23 = .ok (.ireturn, 1) := by decide +kernel
theorem dX1_byLetter_0 : decode cX1_byLetter 0 = .ok (.iload_n 0, 1) := by decide +kernel
theorem dX1_byLetter_1 : decode cX1_byLetter 1 = .ok (.tableswitch 85 101 115 #[83, 79, 85, 77, 85, 85, 85, 85, 81, 85, 85, 85, 85, 85, 75], 75) := by decide +kernel
theorem dX1_byLetter_76 : decode cX1_byLetter 76 = .ok (.iconst 1, 1) := by decide +kernel
theorem dX1_byLetter_77 : decode cX1_byLetter 77 = .ok (.ireturn, 1) := by decide +kernel
theorem dX1_byLetter_78 : decode cX1_byLetter 78 = .ok (.iconst 2, 1) := by decide +kernel
theorem dX1_byLetter_79 : decode cX1_byLetter 79 = .ok (.ireturn, 1) := by decide +kernel
theorem dX1_byLetter_80 : decode cX1_byLetter 80 = .ok (.iconst 3, 1) := by decide +kernel
theorem dX1_byLetter_81 : decode cX1_byLetter 81 = .ok (.ireturn, 1) := by decide +kernel
theorem dX1_byLetter_82 : decode cX1_byLetter 82 = .ok (.iconst 4, 1) := by decide +kernel
theorem dX1_byLetter_83 : decode cX1_byLetter 83 = .ok (.ireturn, 1) := by decide +kernel
theorem dX1_byLetter_84 : decode cX1_byLetter 84 = .ok (.iconst 5, 1) := by decide +kernel
theorem dX1_byLetter_85 : decode cX1_byLetter 85 = .ok (.ireturn, 1) := by decide +kernel
theorem dX1_byLetter_86 : decode cX1_byLetter 86 = .ok (.iconst (-1), 1) := by decide +kernel
theorem dX1_byLetter_87 : decode cX1_byLetter 87 = .ok (.ireturn, 1) := by decide +kernel
theorem dX2_init_0 : decode cX2_init 0 = .ok (.aload_n 0, 1) := by decide +kernel
theorem dX2_init_1 : decode cX2_init 1 = .ok (.invokespecial 3, 3) := by decide +kernel
theorem dX2_init_4 : decode cX2_init 4 = .ok (.aload_n 0, 1) := by decide +kernel
theorem dX2_init_5 : decode cX2_init 5 = .ok (.iconst 0, 1) := by decide +kernel
theorem dX2_init_6 : decode cX2_init 6 = .ok (.putfield 9, 3) := by decide +kernel
theorem dX2_init_9 : decode cX2_init 9 = .ok (.aload_n 0, 1) := by decide +kernel
theorem dX2_init_10 : decode cX2_init 10 = .ok (.iconst 0, 1) := by decide +kernel
theorem dX2_init_11 : decode cX2_init 11 = .ok (.putfield 15, 3) := by decide +kernel
theorem dX2_init_14 : decode cX2_init 14 = .ok (.aload_n 0, 1) := by decide +kernel
theorem dX2_init_15 : decode cX2_init 15 = .ok (.iconst 0, 1) := by decide +kernel
theorem dX2_init_16 : decode cX2_init 16 = .ok (.putfield 18, 3) := by decide +kernel
theorem dX2_init_19 : decode cX2_init 19 = .ok (.aload_n 0, 1) := by decide +kernel
theorem dX2_init_20 : decode cX2_init 20 = .ok (.iconst 0, 1) := by decide +kernel
theorem dX2_init_21 : decode cX2_init 21 = .ok (.putfield 21, 3) := by decide +kernel
theorem dX2_init_24 : decode cX2_init 24 = .ok (.aload_n 0, 1) := by decide +kernel
theorem dX2_init_25 : decode cX2_init 25 = .ok (.iconst 0, 1) := by decide +kernel
theorem dX2_init_26 : decode cX2_init 26 = .ok (.putfield 24, 3) := by decide +kernel
theorem dX2_init_29 : decode cX2_init 29 = .ok (.aload_n 0, 1) := by decide +kernel
theorem dX2_init_30 : decode cX2_init 30 = .ok (.bipush 12, 2) := by decide +kernel
theorem dX2_init_32 : decode cX2_init 32 = .ok (.newarray .int, 2) := by decide +kernel
theorem dX2_init_34 : decode cX2_init 34 = .ok (.putfield 27, 3) := by decide +kernel
theorem dX2_init_37 : decode cX2_init 37 = .ok (.aload_n 0, 1) := by decide +kernel
theorem dX2_init_38 : decode cX2_init 38 = .ok (.bipush 7, 2) := by decide +kernel
theorem dX2_init_40 : decode cX2_init 40 = .ok (.newarray .int, 2) := by decide +kernel
theorem dX2_init_42 : decode cX2_init 42 = .ok (.putfield 31, 3) := by decide +kernel
theorem dX2_init_45 : decode cX2_init 45 = .ok (.aload_n 0, 1) := by decide +kernel
theorem dX2_init_46 : decode cX2_init 46 = .ok (.bipush 7, 2) := by decide +kernel
theorem dX2_init_48 : decode cX2_init 48 = .ok (.newarray .int, 2) := by decide +kernel
theorem dX2_init_50 : decode cX2_init 50 = .ok (.putfield 34, 3) := by decide +kernel
theorem dX2_init_53 : decode cX2_init 53 = .ok (.return_, 1) := by decide +kernel
theorem dX2_packed_0 : decode cX2_packed 0 = .ok (.iload_n 0, 1) := by decide +kernel
theorem dX2_packed_1 : decode cX2_packed 1 = .ok (.iconst 4, 1) := by decide +kernel
theorem dX2_packed_2 : decode cX2_packed 2 = .ok (.ishl, 1) := by decide +kernel
theorem dX2_packed_3 : decode cX2_packed 3 = .ok (.iload_n 1, 1) := by decide +kernel
theorem dX2_packed_4 : decode cX2_packed 4 = .ok (.ior, 1) := by decide +kernel
theorem dX2_packed_5 : decode cX2_packed 5 = .ok (.ireturn, 1) := by decide +kernel
theorem dX2_sizeIn_0 : decode cX2_sizeIn 0 = .ok (.iload_n 0, 1) := by decide +kernel
theorem dX2_sizeIn_1 : decode cX2_sizeIn 1 = .ok (.iconst 4, 1) := by decide +kernel
theorem dX2_sizeIn_2 : decode cX2_sizeIn 2 = .ok (.ishr, 1) := by decide +kernel
theorem dX2_sizeIn_3 : decode cX2_sizeIn 3 = .ok (.ireturn, 1) := by decide +kernel
theorem dX2_cellIn_0 : decode cX2_cellIn 0 = .ok (.iload_n 0, 1) := by decide +kernel
theorem dX2_cellIn_1 : decode cX2_cellIn 1 = .ok (.bipush 15, 2) := by decide +kernel
theorem dX2_cellIn_3 : decode cX2_cellIn 3 = .ok (.iand, 1) := by decide +kernel
theorem dX2_cellIn_4 : decode cX2_cellIn 4 = .ok (.ireturn, 1) := by decide +kernel
theorem dX2_isGone_0 : decode cX2_isGone 0 = .ok (.iload_n 0, 1) := by decide +kernel
theorem dX2_isGone_1 : decode cX2_isGone 1 = .ok (.invokestatic 37, 3) := by decide +kernel
theorem dX2_isGone_4 : decode cX2_isGone 4 = .ok (.ifCond .ne 7, 3) := by decide +kernel
theorem dX2_isGone_7 : decode cX2_isGone 7 = .ok (.iconst 1, 1) := by decide +kernel
theorem dX2_isGone_8 : decode cX2_isGone 8 = .ok (.goto 4, 3) := by decide +kernel
theorem dX2_isGone_11 : decode cX2_isGone 11 = .ok (.iconst 0, 1) := by decide +kernel
theorem dX2_isGone_12 : decode cX2_isGone 12 = .ok (.ireturn, 1) := by decide +kernel
theorem dX2_empty_0 : decode cX2_empty 0 = .ok (.aload_n 0, 1) := by decide +kernel
theorem dX2_empty_1 : decode cX2_empty 1 = .ok (.iconst 0, 1) := by decide +kernel
theorem dX2_empty_2 : decode cX2_empty 2 = .ok (.putfield 9, 3) := by decide +kernel
theorem dX2_empty_5 : decode cX2_empty 5 = .ok (.aload_n 0, 1) := by decide +kernel
theorem dX2_empty_6 : decode cX2_empty 6 = .ok (.iconst 0, 1) := by decide +kernel
theorem dX2_empty_7 : decode cX2_empty 7 = .ok (.putfield 15, 3) := by decide +kernel
theorem dX2_empty_10 : decode cX2_empty 10 = .ok (.aload_n 0, 1) := by decide +kernel
theorem dX2_empty_11 : decode cX2_empty 11 = .ok (.iconst 0, 1) := by decide +kernel
theorem dX2_empty_12 : decode cX2_empty 12 = .ok (.putfield 18, 3) := by decide +kernel
theorem dX2_empty_15 : decode cX2_empty 15 = .ok (.aload_n 0, 1) := by decide +kernel
theorem dX2_empty_16 : decode cX2_empty 16 = .ok (.iconst 0, 1) := by decide +kernel
theorem dX2_empty_17 : decode cX2_empty 17 = .ok (.putfield 21, 3) := by decide +kernel
theorem dX2_empty_20 : decode cX2_empty 20 = .ok (.aload_n 0, 1) := by decide +kernel
theorem dX2_empty_21 : decode cX2_empty 21 = .ok (.iconst 0, 1) := by decide +kernel
theorem dX2_empty_22 : decode cX2_empty 22 = .ok (.putfield 24, 3) := by decide +kernel
theorem dX2_empty_25 : decode cX2_empty 25 = .ok (.return_, 1) := by decide +kernel
theorem dX2_become_0 : decode cX2_become 0 = .ok (.aload_n 0, 1) := by decide +kernel
theorem dX2_become_1 : decode cX2_become 1 = .ok (.aload_n 1, 1) := by decide +kernel
theorem dX2_become_2 : decode cX2_become 2 = .ok (.getfield 9, 3) := by decide +kernel
theorem dX2_become_5 : decode cX2_become 5 = .ok (.putfield 9, 3) := by decide +kernel
theorem dX2_become_8 : decode cX2_become 8 = .ok (.aload_n 0, 1) := by decide +kernel
theorem dX2_become_9 : decode cX2_become 9 = .ok (.aload_n 1, 1) := by decide +kernel
theorem dX2_become_10 : decode cX2_become 10 = .ok (.getfield 15, 3) := by decide +kernel
theorem dX2_become_13 : decode cX2_become 13 = .ok (.putfield 15, 3) := by decide +kernel
theorem dX2_become_16 : decode cX2_become 16 = .ok (.aload_n 0, 1) := by decide +kernel
theorem dX2_become_17 : decode cX2_become 17 = .ok (.aload_n 1, 1) := by decide +kernel
theorem dX2_become_18 : decode cX2_become 18 = .ok (.getfield 18, 3) := by decide +kernel
theorem dX2_become_21 : decode cX2_become 21 = .ok (.putfield 18, 3) := by decide +kernel
theorem dX2_become_24 : decode cX2_become 24 = .ok (.aload_n 0, 1) := by decide +kernel
theorem dX2_become_25 : decode cX2_become 25 = .ok (.aload_n 1, 1) := by decide +kernel
theorem dX2_become_26 : decode cX2_become 26 = .ok (.getfield 21, 3) := by decide +kernel
theorem dX2_become_29 : decode cX2_become 29 = .ok (.putfield 21, 3) := by decide +kernel
theorem dX2_become_32 : decode cX2_become 32 = .ok (.aload_n 0, 1) := by decide +kernel
theorem dX2_become_33 : decode cX2_become 33 = .ok (.aload_n 1, 1) := by decide +kernel
theorem dX2_become_34 : decode cX2_become 34 = .ok (.getfield 24, 3) := by decide +kernel
theorem dX2_become_37 : decode cX2_become 37 = .ok (.putfield 24, 3) := by decide +kernel
theorem dX2_become_40 : decode cX2_become 40 = .ok (.aload_n 1, 1) := by decide +kernel
theorem dX2_become_41 : decode cX2_become 41 = .ok (.getfield 27, 3) := by decide +kernel
theorem dX2_become_44 : decode cX2_become 44 = .ok (.iconst 0, 1) := by decide +kernel
theorem dX2_become_45 : decode cX2_become 45 = .ok (.aload_n 0, 1) := by decide +kernel
theorem dX2_become_46 : decode cX2_become 46 = .ok (.getfield 27, 3) := by decide +kernel
theorem dX2_become_49 : decode cX2_become 49 = .ok (.iconst 0, 1) := by decide +kernel
theorem dX2_become_50 : decode cX2_become 50 = .ok (.bipush 12, 2) := by decide +kernel
theorem dX2_become_52 : decode cX2_become 52 = .ok (.invokestatic 41, 3) := by decide +kernel
theorem dX2_become_55 : decode cX2_become 55 = .ok (.aload_n 1, 1) := by decide +kernel
theorem dX2_become_56 : decode cX2_become 56 = .ok (.getfield 31, 3) := by decide +kernel
theorem dX2_become_59 : decode cX2_become 59 = .ok (.iconst 0, 1) := by decide +kernel
theorem dX2_become_60 : decode cX2_become 60 = .ok (.aload_n 0, 1) := by decide +kernel
theorem dX2_become_61 : decode cX2_become 61 = .ok (.getfield 31, 3) := by decide +kernel
theorem dX2_become_64 : decode cX2_become 64 = .ok (.iconst 0, 1) := by decide +kernel
theorem dX2_become_65 : decode cX2_become 65 = .ok (.bipush 7, 2) := by decide +kernel
theorem dX2_become_67 : decode cX2_become 67 = .ok (.invokestatic 41, 3) := by decide +kernel
theorem dX2_become_70 : decode cX2_become 70 = .ok (.aload_n 1, 1) := by decide +kernel
theorem dX2_become_71 : decode cX2_become 71 = .ok (.getfield 34, 3) := by decide +kernel
theorem dX2_become_74 : decode cX2_become 74 = .ok (.iconst 0, 1) := by decide +kernel
theorem dX2_become_75 : decode cX2_become 75 = .ok (.aload_n 0, 1) := by decide +kernel
theorem dX2_become_76 : decode cX2_become 76 = .ok (.getfield 34, 3) := by decide +kernel
theorem dX2_become_79 : decode cX2_become 79 = .ok (.iconst 0, 1) := by decide +kernel
theorem dX2_become_80 : decode cX2_become 80 = .ok (.bipush 7, 2) := by decide +kernel
theorem dX2_become_82 : decode cX2_become 82 = .ok (.invokestatic 41, 3) := by decide +kernel
theorem dX2_become_85 : decode cX2_become 85 = .ok (.return_, 1) := by decide +kernel
theorem dX2_takeSpeeds_0 : decode cX2_takeSpeeds 0 = .ok (.iconst 0, 1) := by decide +kernel
theorem dX2_takeSpeeds_1 : decode cX2_takeSpeeds 1 = .ok (.istore_n 3, 1) := by decide +kernel
theorem dX2_takeSpeeds_2 : decode cX2_takeSpeeds 2 = .ok (.iload_n 3, 1) := by decide +kernel
theorem dX2_takeSpeeds_3 : decode cX2_takeSpeeds 3 = .ok (.aload_n 0, 1) := by decide +kernel
theorem dX2_takeSpeeds_4 : decode cX2_takeSpeeds 4 = .ok (.getfield 9, 3) := by decide +kernel
theorem dX2_takeSpeeds_7 : decode cX2_takeSpeeds 7 = .ok (.if_icmp .ge 46, 3) := by decide +kernel
theorem dX2_takeSpeeds_10 : decode cX2_takeSpeeds 10 = .ok (.iload_n 2, 1) := by decide +kernel
theorem dX2_takeSpeeds_11 : decode cX2_takeSpeeds 11 = .ok (.iload_n 3, 1) := by decide +kernel
theorem dX2_takeSpeeds_12 : decode cX2_takeSpeeds 12 = .ok (.ishr, 1) := by decide +kernel
theorem dX2_takeSpeeds_13 : decode cX2_takeSpeeds 13 = .ok (.iconst 1, 1) := by decide +kernel
theorem dX2_takeSpeeds_14 : decode cX2_takeSpeeds 14 = .ok (.iand, 1) := by decide +kernel
theorem dX2_takeSpeeds_15 : decode cX2_takeSpeeds 15 = .ok (.iconst 1, 1) := by decide +kernel
theorem dX2_takeSpeeds_16 : decode cX2_takeSpeeds 16 = .ok (.if_icmp .ne 7, 3) := by decide +kernel
theorem dX2_takeSpeeds_19 : decode cX2_takeSpeeds 19 = .ok (.iconst 1, 1) := by decide +kernel
theorem dX2_takeSpeeds_20 : decode cX2_takeSpeeds 20 = .ok (.goto 4, 3) := by decide +kernel
theorem dX2_takeSpeeds_23 : decode cX2_takeSpeeds 23 = .ok (.iconst 0, 1) := by decide +kernel
theorem dX2_takeSpeeds_24 : decode cX2_takeSpeeds 24 = .ok (.istore 4, 2) := by decide +kernel
theorem dX2_takeSpeeds_26 : decode cX2_takeSpeeds 26 = .ok (.aload_n 0, 1) := by decide +kernel
theorem dX2_takeSpeeds_27 : decode cX2_takeSpeeds 27 = .ok (.getfield 27, 3) := by decide +kernel
theorem dX2_takeSpeeds_30 : decode cX2_takeSpeeds 30 = .ok (.iload_n 3, 1) := by decide +kernel
theorem dX2_takeSpeeds_31 : decode cX2_takeSpeeds 31 = .ok (.iload 4, 2) := by decide +kernel
theorem dX2_takeSpeeds_33 : decode cX2_takeSpeeds 33 = .ok (.ifCond .eq 7, 3) := by decide +kernel
theorem dX2_takeSpeeds_36 : decode cX2_takeSpeeds 36 = .ok (.iconst 3, 1) := by decide +kernel
theorem dX2_takeSpeeds_37 : decode cX2_takeSpeeds 37 = .ok (.goto 9, 3) := by decide +kernel
theorem dX2_takeSpeeds_40 : decode cX2_takeSpeeds 40 = .ok (.aload_n 1, 1) := by decide +kernel
theorem dX2_takeSpeeds_41 : decode cX2_takeSpeeds 41 = .ok (.getfield 27, 3) := by decide +kernel
theorem dX2_takeSpeeds_44 : decode cX2_takeSpeeds 44 = .ok (.iload_n 3, 1) := by decide +kernel
theorem dX2_takeSpeeds_45 : decode cX2_takeSpeeds 45 = .ok (.iaload, 1) := by decide +kernel
theorem dX2_takeSpeeds_46 : decode cX2_takeSpeeds 46 = .ok (.iastore, 1) := by decide +kernel
theorem dX2_takeSpeeds_47 : decode cX2_takeSpeeds 47 = .ok (.iinc 3 1, 3) := by decide +kernel
theorem dX2_takeSpeeds_50 : decode cX2_takeSpeeds 50 = .ok (.goto (-48), 3) := by decide +kernel
theorem dX2_takeSpeeds_53 : decode cX2_takeSpeeds 53 = .ok (.return_, 1) := by decide +kernel
theorem dX2_hasCell_0 : decode cX2_hasCell 0 = .ok (.iload_n 1, 1) := by decide +kernel
theorem dX2_hasCell_1 : decode cX2_hasCell 1 = .ok (.ifCond .lt 15, 3) := by decide +kernel
theorem dX2_hasCell_4 : decode cX2_hasCell 4 = .ok (.iload_n 1, 1) := by decide +kernel
theorem dX2_hasCell_5 : decode cX2_hasCell 5 = .ok (.aload_n 0, 1) := by decide +kernel
theorem dX2_hasCell_6 : decode cX2_hasCell 6 = .ok (.getfield 9, 3) := by decide +kernel
theorem dX2_hasCell_9 : decode cX2_hasCell 9 = .ok (.if_icmp .ge 7, 3) := by decide +kernel
theorem dX2_hasCell_12 : decode cX2_hasCell 12 = .ok (.iconst 1, 1) := by decide +kernel
theorem dX2_hasCell_13 : decode cX2_hasCell 13 = .ok (.goto 4, 3) := by decide +kernel
theorem dX2_hasCell_16 : decode cX2_hasCell 16 = .ok (.iconst 0, 1) := by decide +kernel
theorem dX2_hasCell_17 : decode cX2_hasCell 17 = .ok (.ireturn, 1) := by decide +kernel
theorem dX2_hasWord_0 : decode cX2_hasWord 0 = .ok (.iload_n 1, 1) := by decide +kernel
theorem dX2_hasWord_1 : decode cX2_hasWord 1 = .ok (.ifCond .lt 15, 3) := by decide +kernel
theorem dX2_hasWord_4 : decode cX2_hasWord 4 = .ok (.iload_n 1, 1) := by decide +kernel
theorem dX2_hasWord_5 : decode cX2_hasWord 5 = .ok (.aload_n 0, 1) := by decide +kernel
theorem dX2_hasWord_6 : decode cX2_hasWord 6 = .ok (.getfield 15, 3) := by decide +kernel
theorem dX2_hasWord_9 : decode cX2_hasWord 9 = .ok (.if_icmp .ge 7, 3) := by decide +kernel
theorem dX2_hasWord_12 : decode cX2_hasWord 12 = .ok (.iconst 1, 1) := by decide +kernel
theorem dX2_hasWord_13 : decode cX2_hasWord 13 = .ok (.goto 4, 3) := by decide +kernel
theorem dX2_hasWord_16 : decode cX2_hasWord 16 = .ok (.iconst 0, 1) := by decide +kernel
theorem dX2_hasWord_17 : decode cX2_hasWord 17 = .ok (.ireturn, 1) := by decide +kernel
theorem dX2_sizeOf_0 : decode cX2_sizeOf 0 = .ok (.aload_n 0, 1) := by decide +kernel
theorem dX2_sizeOf_1 : decode cX2_sizeOf 1 = .ok (.getfield 34, 3) := by decide +kernel
theorem dX2_sizeOf_4 : decode cX2_sizeOf 4 = .ok (.iload_n 1, 1) := by decide +kernel
theorem dX2_sizeOf_5 : decode cX2_sizeOf 5 = .ok (.iaload, 1) := by decide +kernel
theorem dX2_sizeOf_6 : decode cX2_sizeOf 6 = .ok (.invokestatic 37, 3) := by decide +kernel
theorem dX2_sizeOf_9 : decode cX2_sizeOf 9 = .ok (.ireturn, 1) := by decide +kernel
theorem dX2_goneBits_0 : decode cX2_goneBits 0 = .ok (.iconst 0, 1) := by decide +kernel
theorem dX2_goneBits_1 : decode cX2_goneBits 1 = .ok (.istore_n 1, 1) := by decide +kernel
theorem dX2_goneBits_2 : decode cX2_goneBits 2 = .ok (.iconst 0, 1) := by decide +kernel
theorem dX2_goneBits_3 : decode cX2_goneBits 3 = .ok (.istore_n 2, 1) := by decide +kernel
theorem dX2_goneBits_4 : decode cX2_goneBits 4 = .ok (.iload_n 2, 1) := by decide +kernel
theorem dX2_goneBits_5 : decode cX2_goneBits 5 = .ok (.aload_n 0, 1) := by decide +kernel
theorem dX2_goneBits_6 : decode cX2_goneBits 6 = .ok (.getfield 15, 3) := by decide +kernel
theorem dX2_goneBits_9 : decode cX2_goneBits 9 = .ok (.if_icmp .ge 27, 3) := by decide +kernel
theorem dX2_goneBits_12 : decode cX2_goneBits 12 = .ok (.aload_n 0, 1) := by decide +kernel
theorem dX2_goneBits_13 : decode cX2_goneBits 13 = .ok (.getfield 34, 3) := by decide +kernel
theorem dX2_goneBits_16 : decode cX2_goneBits 16 = .ok (.iload_n 2, 1) := by decide +kernel
theorem dX2_goneBits_17 : decode cX2_goneBits 17 = .ok (.iaload, 1) := by decide +kernel
theorem dX2_goneBits_18 : decode cX2_goneBits 18 = .ok (.invokestatic 47, 3) := by decide +kernel
theorem dX2_goneBits_21 : decode cX2_goneBits 21 = .ok (.ifCond .eq 9, 3) := by decide +kernel
theorem dX2_goneBits_24 : decode cX2_goneBits 24 = .ok (.iload_n 1, 1) := by decide +kernel
theorem dX2_goneBits_25 : decode cX2_goneBits 25 = .ok (.iconst 1, 1) := by decide +kernel
theorem dX2_goneBits_26 : decode cX2_goneBits 26 = .ok (.iload_n 2, 1) := by decide +kernel
theorem dX2_goneBits_27 : decode cX2_goneBits 27 = .ok (.ishl, 1) := by decide +kernel
theorem dX2_goneBits_28 : decode cX2_goneBits 28 = .ok (.ior, 1) := by decide +kernel
theorem dX2_goneBits_29 : decode cX2_goneBits 29 = .ok (.istore_n 1, 1) := by decide +kernel
theorem dX2_goneBits_30 : decode cX2_goneBits 30 = .ok (.iinc 2 1, 3) := by decide +kernel
theorem dX2_goneBits_33 : decode cX2_goneBits 33 = .ok (.goto (-29), 3) := by decide +kernel
theorem dX2_goneBits_36 : decode cX2_goneBits 36 = .ok (.iload_n 1, 1) := by decide +kernel
theorem dX2_goneBits_37 : decode cX2_goneBits 37 = .ok (.ireturn, 1) := by decide +kernel
theorem dX2_wordsIn_0 : decode cX2_wordsIn 0 = .ok (.iconst 0, 1) := by decide +kernel
theorem dX2_wordsIn_1 : decode cX2_wordsIn 1 = .ok (.istore_n 2, 1) := by decide +kernel
theorem dX2_wordsIn_2 : decode cX2_wordsIn 2 = .ok (.iconst 0, 1) := by decide +kernel
theorem dX2_wordsIn_3 : decode cX2_wordsIn 3 = .ok (.istore_n 3, 1) := by decide +kernel
theorem dX2_wordsIn_4 : decode cX2_wordsIn 4 = .ok (.iload_n 3, 1) := by decide +kernel
theorem dX2_wordsIn_5 : decode cX2_wordsIn 5 = .ok (.aload_n 0, 1) := by decide +kernel
theorem dX2_wordsIn_6 : decode cX2_wordsIn 6 = .ok (.getfield 15, 3) := by decide +kernel
theorem dX2_wordsIn_9 : decode cX2_wordsIn 9 = .ok (.if_icmp .ge 40, 3) := by decide +kernel
theorem dX2_wordsIn_12 : decode cX2_wordsIn 12 = .ok (.aload_n 0, 1) := by decide +kernel
theorem dX2_wordsIn_13 : decode cX2_wordsIn 13 = .ok (.getfield 34, 3) := by decide +kernel
theorem dX2_wordsIn_16 : decode cX2_wordsIn 16 = .ok (.iload_n 3, 1) := by decide +kernel
theorem dX2_wordsIn_17 : decode cX2_wordsIn 17 = .ok (.iaload, 1) := by decide +kernel
theorem dX2_wordsIn_18 : decode cX2_wordsIn 18 = .ok (.invokestatic 47, 3) := by decide +kernel
theorem dX2_wordsIn_21 : decode cX2_wordsIn 21 = .ok (.ifCond .ne 22, 3) := by decide +kernel
theorem dX2_wordsIn_24 : decode cX2_wordsIn 24 = .ok (.aload_n 0, 1) := by decide +kernel
theorem dX2_wordsIn_25 : decode cX2_wordsIn 25 = .ok (.getfield 34, 3) := by decide +kernel
theorem dX2_wordsIn_28 : decode cX2_wordsIn 28 = .ok (.iload_n 3, 1) := by decide +kernel
theorem dX2_wordsIn_29 : decode cX2_wordsIn 29 = .ok (.iaload, 1) := by decide +kernel
theorem dX2_wordsIn_30 : decode cX2_wordsIn 30 = .ok (.invokestatic 51, 3) := by decide +kernel
theorem dX2_wordsIn_33 : decode cX2_wordsIn 33 = .ok (.iload_n 1, 1) := by decide +kernel
theorem dX2_wordsIn_34 : decode cX2_wordsIn 34 = .ok (.if_icmp .ne 9, 3) := by decide +kernel
theorem dX2_wordsIn_37 : decode cX2_wordsIn 37 = .ok (.iload_n 2, 1) := by decide +kernel
theorem dX2_wordsIn_38 : decode cX2_wordsIn 38 = .ok (.iconst 1, 1) := by decide +kernel
theorem dX2_wordsIn_39 : decode cX2_wordsIn 39 = .ok (.iload_n 3, 1) := by decide +kernel
theorem dX2_wordsIn_40 : decode cX2_wordsIn 40 = .ok (.ishl, 1) := by decide +kernel
theorem dX2_wordsIn_41 : decode cX2_wordsIn 41 = .ok (.ior, 1) := by decide +kernel
theorem dX2_wordsIn_42 : decode cX2_wordsIn 42 = .ok (.istore_n 2, 1) := by decide +kernel
theorem dX2_wordsIn_43 : decode cX2_wordsIn 43 = .ok (.iinc 3 1, 3) := by decide +kernel
theorem dX2_wordsIn_46 : decode cX2_wordsIn 46 = .ok (.goto (-42), 3) := by decide +kernel
theorem dX2_wordsIn_49 : decode cX2_wordsIn 49 = .ok (.iload_n 2, 1) := by decide +kernel
theorem dX2_wordsIn_50 : decode cX2_wordsIn 50 = .ok (.ireturn, 1) := by decide +kernel
theorem dX2_hasClimber_0 : decode cX2_hasClimber 0 = .ok (.iconst 0, 1) := by decide +kernel
theorem dX2_hasClimber_1 : decode cX2_hasClimber 1 = .ok (.istore_n 1, 1) := by decide +kernel
theorem dX2_hasClimber_2 : decode cX2_hasClimber 2 = .ok (.iload_n 1, 1) := by decide +kernel
theorem dX2_hasClimber_3 : decode cX2_hasClimber 3 = .ok (.aload_n 0, 1) := by decide +kernel
theorem dX2_hasClimber_4 : decode cX2_hasClimber 4 = .ok (.getfield 15, 3) := by decide +kernel
theorem dX2_hasClimber_7 : decode cX2_hasClimber 7 = .ok (.if_icmp .ge 36, 3) := by decide +kernel
theorem dX2_hasClimber_10 : decode cX2_hasClimber 10 = .ok (.aload_n 0, 1) := by decide +kernel
theorem dX2_hasClimber_11 : decode cX2_hasClimber 11 = .ok (.getfield 34, 3) := by decide +kernel
theorem dX2_hasClimber_14 : decode cX2_hasClimber 14 = .ok (.iload_n 1, 1) := by decide +kernel
theorem dX2_hasClimber_15 : decode cX2_hasClimber 15 = .ok (.iaload, 1) := by decide +kernel
theorem dX2_hasClimber_16 : decode cX2_hasClimber 16 = .ok (.invokestatic 47, 3) := by decide +kernel
theorem dX2_hasClimber_19 : decode cX2_hasClimber 19 = .ok (.ifCond .ne 18, 3) := by decide +kernel
theorem dX2_hasClimber_22 : decode cX2_hasClimber 22 = .ok (.aload_n 0, 1) := by decide +kernel
theorem dX2_hasClimber_23 : decode cX2_hasClimber 23 = .ok (.getfield 31, 3) := by decide +kernel
theorem dX2_hasClimber_26 : decode cX2_hasClimber 26 = .ok (.iload_n 1, 1) := by decide +kernel
theorem dX2_hasClimber_27 : decode cX2_hasClimber 27 = .ok (.iaload, 1) := by decide +kernel
theorem dX2_hasClimber_28 : decode cX2_hasClimber 28 = .ok (.iconst 4, 1) := by decide +kernel
theorem dX2_hasClimber_29 : decode cX2_hasClimber 29 = .ok (.invokestatic 56, 3) := by decide +kernel
theorem dX2_hasClimber_32 : decode cX2_hasClimber 32 = .ok (.ifCond .eq 5, 3) := by decide +kernel
theorem dX2_hasClimber_35 : decode cX2_hasClimber 35 = .ok (.iconst 1, 1) := by decide +kernel
theorem dX2_hasClimber_36 : decode cX2_hasClimber 36 = .ok (.ireturn, 1) := by decide +kernel
theorem dX2_hasClimber_37 : decode cX2_hasClimber 37 = .ok (.iinc 1 1, 3) := by decide +kernel
theorem dX2_hasClimber_40 : decode cX2_hasClimber 40 = .ok (.goto (-38), 3) := by decide +kernel
theorem dX2_hasClimber_43 : decode cX2_hasClimber 43 = .ok (.iconst 0, 1) := by decide +kernel
theorem dX2_hasClimber_44 : decode cX2_hasClimber 44 = .ok (.ireturn, 1) := by decide +kernel
theorem dX2_isWet_0 : decode cX2_isWet 0 = .ok (.aload_n 0, 1) := by decide +kernel
theorem dX2_isWet_1 : decode cX2_isWet 1 = .ok (.getfield 21, 3) := by decide +kernel
theorem dX2_isWet_4 : decode cX2_isWet 4 = .ok (.iload_n 1, 1) := by decide +kernel
theorem dX2_isWet_5 : decode cX2_isWet 5 = .ok (.iconst 4, 1) := by decide +kernel
theorem dX2_isWet_6 : decode cX2_isWet 6 = .ok (.irem, 1) := by decide +kernel
theorem dX2_isWet_7 : decode cX2_isWet 7 = .ok (.ishr, 1) := by decide +kernel
theorem dX2_isWet_8 : decode cX2_isWet 8 = .ok (.iconst 1, 1) := by decide +kernel
theorem dX2_isWet_9 : decode cX2_isWet 9 = .ok (.iand, 1) := by decide +kernel
theorem dX2_isWet_10 : decode cX2_isWet 10 = .ok (.iconst 1, 1) := by decide +kernel
theorem dX2_isWet_11 : decode cX2_isWet 11 = .ok (.if_icmp .ne 7, 3) := by decide +kernel
theorem dX2_isWet_14 : decode cX2_isWet 14 = .ok (.iconst 1, 1) := by decide +kernel
theorem dX2_isWet_15 : decode cX2_isWet 15 = .ok (.goto 4, 3) := by decide +kernel
theorem dX2_isWet_18 : decode cX2_isWet 18 = .ok (.iconst 0, 1) := by decide +kernel
theorem dX2_isWet_19 : decode cX2_isWet 19 = .ok (.ireturn, 1) := by decide +kernel
theorem dX2_paceOf_0 : decode cX2_paceOf 0 = .ok (.iload_n 1, 1) := by decide +kernel
theorem dX2_paceOf_1 : decode cX2_paceOf 1 = .ok (.ifCond .lt 20, 3) := by decide +kernel
theorem dX2_paceOf_4 : decode cX2_paceOf 4 = .ok (.iload_n 1, 1) := by decide +kernel
theorem dX2_paceOf_5 : decode cX2_paceOf 5 = .ok (.aload_n 0, 1) := by decide +kernel
theorem dX2_paceOf_6 : decode cX2_paceOf 6 = .ok (.getfield 9, 3) := by decide +kernel
theorem dX2_paceOf_9 : decode cX2_paceOf 9 = .ok (.if_icmp .ge 12, 3) := by decide +kernel
theorem dX2_paceOf_12 : decode cX2_paceOf 12 = .ok (.aload_n 0, 1) := by decide +kernel
theorem dX2_paceOf_13 : decode cX2_paceOf 13 = .ok (.getfield 27, 3) := by decide +kernel
theorem dX2_paceOf_16 : decode cX2_paceOf 16 = .ok (.iload_n 1, 1) := by decide +kernel
theorem dX2_paceOf_17 : decode cX2_paceOf 17 = .ok (.iaload, 1) := by decide +kernel
theorem dX2_paceOf_18 : decode cX2_paceOf 18 = .ok (.ifCond .ne 5, 3) := by decide +kernel
theorem dX2_paceOf_21 : decode cX2_paceOf 21 = .ok (.iconst 0, 1) := by decide +kernel
theorem dX2_paceOf_22 : decode cX2_paceOf 22 = .ok (.ireturn, 1) := by decide +kernel
theorem dX2_paceOf_23 : decode cX2_paceOf 23 = .ok (.iload_n 2, 1) := by decide +kernel
theorem dX2_paceOf_24 : decode cX2_paceOf 24 = .ok (.ifCond .eq 14, 3) := by decide +kernel
theorem dX2_paceOf_27 : decode cX2_paceOf 27 = .ok (.aload_n 0, 1) := by decide +kernel
theorem dX2_paceOf_28 : decode cX2_paceOf 28 = .ok (.getfield 27, 3) := by decide +kernel
theorem dX2_paceOf_31 : decode cX2_paceOf 31 = .ok (.iload_n 1, 1) := by decide +kernel
theorem dX2_paceOf_32 : decode cX2_paceOf 32 = .ok (.iaload, 1) := by decide +kernel
theorem dX2_paceOf_33 : decode cX2_paceOf 33 = .ok (.iconst 1, 1) := by decide +kernel
theorem dX2_paceOf_34 : decode cX2_paceOf 34 = .ok (.iadd, 1) := by decide +kernel
theorem dX2_paceOf_35 : decode cX2_paceOf 35 = .ok (.goto 9, 3) := by decide +kernel
theorem dX2_paceOf_38 : decode cX2_paceOf 38 = .ok (.aload_n 0, 1) := by decide +kernel
theorem dX2_paceOf_39 : decode cX2_paceOf 39 = .ok (.getfield 27, 3) := by decide +kernel
theorem dX2_paceOf_42 : decode cX2_paceOf 42 = .ok (.iload_n 1, 1) := by decide +kernel
theorem dX2_paceOf_43 : decode cX2_paceOf 43 = .ok (.iaload, 1) := by decide +kernel
theorem dX2_paceOf_44 : decode cX2_paceOf 44 = .ok (.ireturn, 1) := by decide +kernel
theorem dX2_passMinute_0 : decode cX2_passMinute 0 = .ok (.aload_n 0, 1) := by decide +kernel
theorem dX2_passMinute_1 : decode cX2_passMinute 1 = .ok (.aload_n 0, 1) := by decide +kernel
theorem dX2_passMinute_2 : decode cX2_passMinute 2 = .ok (.getfield 24, 3) := by decide +kernel
theorem dX2_passMinute_5 : decode cX2_passMinute 5 = .ok (.invokevirtual 60, 3) := by decide +kernel
theorem dX2_passMinute_8 : decode cX2_passMinute 8 = .ok (.istore_n 1, 1) := by decide +kernel
theorem dX2_passMinute_9 : decode cX2_passMinute 9 = .ok (.iconst 0, 1) := by decide +kernel
theorem dX2_passMinute_10 : decode cX2_passMinute 10 = .ok (.istore_n 2, 1) := by decide +kernel
theorem dX2_passMinute_11 : decode cX2_passMinute 11 = .ok (.iload_n 2, 1) := by decide +kernel
theorem dX2_passMinute_12 : decode cX2_passMinute 12 = .ok (.aload_n 0, 1) := by decide +kernel
theorem dX2_passMinute_13 : decode cX2_passMinute 13 = .ok (.getfield 15, 3) := by decide +kernel
theorem dX2_passMinute_16 : decode cX2_passMinute 16 = .ok (.if_icmp .ge 36, 3) := by decide +kernel
theorem dX2_passMinute_19 : decode cX2_passMinute 19 = .ok (.aload_n 0, 1) := by decide +kernel
theorem dX2_passMinute_20 : decode cX2_passMinute 20 = .ok (.getfield 34, 3) := by decide +kernel
theorem dX2_passMinute_23 : decode cX2_passMinute 23 = .ok (.iload_n 2, 1) := by decide +kernel
theorem dX2_passMinute_24 : decode cX2_passMinute 24 = .ok (.aload_n 0, 1) := by decide +kernel
theorem dX2_passMinute_25 : decode cX2_passMinute 25 = .ok (.aload_n 0, 1) := by decide +kernel
theorem dX2_passMinute_26 : decode cX2_passMinute 26 = .ok (.getfield 31, 3) := by decide +kernel
theorem dX2_passMinute_29 : decode cX2_passMinute 29 = .ok (.iload_n 2, 1) := by decide +kernel
theorem dX2_passMinute_30 : decode cX2_passMinute 30 = .ok (.iaload, 1) := by decide +kernel
theorem dX2_passMinute_31 : decode cX2_passMinute 31 = .ok (.aload_n 0, 1) := by decide +kernel
theorem dX2_passMinute_32 : decode cX2_passMinute 32 = .ok (.getfield 34, 3) := by decide +kernel
theorem dX2_passMinute_35 : decode cX2_passMinute 35 = .ok (.iload_n 2, 1) := by decide +kernel
theorem dX2_passMinute_36 : decode cX2_passMinute 36 = .ok (.iaload, 1) := by decide +kernel
theorem dX2_passMinute_37 : decode cX2_passMinute 37 = .ok (.aload_n 0, 1) := by decide +kernel
theorem dX2_passMinute_38 : decode cX2_passMinute 38 = .ok (.getfield 24, 3) := by decide +kernel
theorem dX2_passMinute_41 : decode cX2_passMinute 41 = .ok (.iload_n 1, 1) := by decide +kernel
theorem dX2_passMinute_42 : decode cX2_passMinute 42 = .ok (.invokevirtual 63, 3) := by decide +kernel
theorem dX2_passMinute_45 : decode cX2_passMinute 45 = .ok (.iastore, 1) := by decide +kernel
theorem dX2_passMinute_46 : decode cX2_passMinute 46 = .ok (.iinc 2 1, 3) := by decide +kernel
theorem dX2_passMinute_49 : decode cX2_passMinute 49 = .ok (.goto (-38), 3) := by decide +kernel
theorem dX2_passMinute_52 : decode cX2_passMinute 52 = .ok (.aload_n 0, 1) := by decide +kernel
theorem dX2_passMinute_53 : decode cX2_passMinute 53 = .ok (.dup, 1) := by decide +kernel
theorem dX2_passMinute_54 : decode cX2_passMinute 54 = .ok (.getfield 24, 3) := by decide +kernel
theorem dX2_passMinute_57 : decode cX2_passMinute 57 = .ok (.iconst 1, 1) := by decide +kernel
theorem dX2_passMinute_58 : decode cX2_passMinute 58 = .ok (.iadd, 1) := by decide +kernel
theorem dX2_passMinute_59 : decode cX2_passMinute 59 = .ok (.putfield 24, 3) := by decide +kernel
theorem dX2_passMinute_62 : decode cX2_passMinute 62 = .ok (.return_, 1) := by decide +kernel
theorem dX2_moved_0 : decode cX2_moved 0 = .ok (.iload_n 2, 1) := by decide +kernel
theorem dX2_moved_1 : decode cX2_moved 1 = .ok (.invokestatic 47, 3) := by decide +kernel
theorem dX2_moved_4 : decode cX2_moved 4 = .ok (.ifCond .eq 5, 3) := by decide +kernel
theorem dX2_moved_7 : decode cX2_moved 7 = .ok (.iload_n 2, 1) := by decide +kernel
theorem dX2_moved_8 : decode cX2_moved 8 = .ok (.ireturn, 1) := by decide +kernel
theorem dX2_moved_9 : decode cX2_moved 9 = .ok (.iload_n 1, 1) := by decide +kernel
theorem dX2_moved_10 : decode cX2_moved 10 = .ok (.iconst 4, 1) := by decide +kernel
theorem dX2_moved_11 : decode cX2_moved 11 = .ok (.invokestatic 56, 3) := by decide +kernel
theorem dX2_moved_14 : decode cX2_moved 14 = .ok (.ifCond .eq 31, 3) := by decide +kernel
theorem dX2_moved_17 : decode cX2_moved 17 = .ok (.iload_n 1, 1) := by decide +kernel
theorem dX2_moved_18 : decode cX2_moved 18 = .ok (.iconst 5, 1) := by decide +kernel
theorem dX2_moved_19 : decode cX2_moved 19 = .ok (.if_icmp .ne 13, 3) := by decide +kernel
theorem dX2_moved_22 : decode cX2_moved 22 = .ok (.iload_n 3, 1) := by decide +kernel
theorem dX2_moved_23 : decode cX2_moved 23 = .ok (.iconst 2, 1) := by decide +kernel
theorem dX2_moved_24 : decode cX2_moved 24 = .ok (.irem, 1) := by decide +kernel
theorem dX2_moved_25 : decode cX2_moved 25 = .ok (.ifCond .ne 7, 3) := by decide +kernel
theorem dX2_moved_28 : decode cX2_moved 28 = .ok (.iconst 2, 1) := by decide +kernel
theorem dX2_moved_29 : decode cX2_moved 29 = .ok (.goto 4, 3) := by decide +kernel
theorem dX2_moved_32 : decode cX2_moved 32 = .ok (.iconst 1, 1) := by decide +kernel
theorem dX2_moved_33 : decode cX2_moved 33 = .ok (.istore 5, 2) := by decide +kernel
theorem dX2_moved_35 : decode cX2_moved 35 = .ok (.aload_n 0, 1) := by decide +kernel
theorem dX2_moved_36 : decode cX2_moved 36 = .ok (.iload_n 2, 1) := by decide +kernel
theorem dX2_moved_37 : decode cX2_moved 37 = .ok (.iload 5, 2) := by decide +kernel
theorem dX2_moved_39 : decode cX2_moved 39 = .ok (.iload 4, 2) := by decide +kernel
theorem dX2_moved_41 : decode cX2_moved 41 = .ok (.invokevirtual 67, 3) := by decide +kernel
theorem dX2_moved_44 : decode cX2_moved 44 = .ok (.ireturn, 1) := by decide +kernel
theorem dX2_moved_45 : decode cX2_moved 45 = .ok (.aload_n 0, 1) := by decide +kernel
theorem dX2_moved_46 : decode cX2_moved 46 = .ok (.iload_n 1, 1) := by decide +kernel
theorem dX2_moved_47 : decode cX2_moved 47 = .ok (.iload_n 2, 1) := by decide +kernel
theorem dX2_moved_48 : decode cX2_moved 48 = .ok (.iload 4, 2) := by decide +kernel
theorem dX2_moved_50 : decode cX2_moved 50 = .ok (.invokevirtual 71, 3) := by decide +kernel
theorem dX2_moved_53 : decode cX2_moved 53 = .ok (.ireturn, 1) := by decide +kernel
theorem dX2_drifted_0 : decode cX2_drifted 0 = .ok (.iload_n 2, 1) := by decide +kernel
theorem dX2_drifted_1 : decode cX2_drifted 1 = .ok (.invokestatic 37, 3) := by decide +kernel
theorem dX2_drifted_4 : decode cX2_drifted 4 = .ok (.istore 4, 2) := by decide +kernel
theorem dX2_drifted_6 : decode cX2_drifted 6 = .ok (.iload_n 2, 1) := by decide +kernel
theorem dX2_drifted_7 : decode cX2_drifted 7 = .ok (.invokestatic 51, 3) := by decide +kernel
theorem dX2_drifted_10 : decode cX2_drifted 10 = .ok (.istore 5, 2) := by decide +kernel
theorem dX2_drifted_12 : decode cX2_drifted 12 = .ok (.aload_n 0, 1) := by decide +kernel
theorem dX2_drifted_13 : decode cX2_drifted 13 = .ok (.iload 5, 2) := by decide +kernel
theorem dX2_drifted_15 : decode cX2_drifted 15 = .ok (.iload_n 3, 1) := by decide +kernel
theorem dX2_drifted_16 : decode cX2_drifted 16 = .ok (.invokevirtual 74, 3) := by decide +kernel
theorem dX2_drifted_19 : decode cX2_drifted 19 = .ok (.istore 6, 2) := by decide +kernel
theorem dX2_drifted_21 : decode cX2_drifted 21 = .ok (.iload 5, 2) := by decide +kernel
theorem dX2_drifted_23 : decode cX2_drifted 23 = .ok (.iload_n 1, 1) := by decide +kernel
theorem dX2_drifted_24 : decode cX2_drifted 24 = .ok (.iconst 3, 1) := by decide +kernel
theorem dX2_drifted_25 : decode cX2_drifted 25 = .ok (.if_icmp .ne 16, 3) := by decide +kernel
theorem dX2_drifted_28 : decode cX2_drifted 28 = .ok (.iload 6, 2) := by decide +kernel
theorem dX2_drifted_30 : decode cX2_drifted 30 = .ok (.iconst 1, 1) := by decide +kernel
theorem dX2_drifted_31 : decode cX2_drifted 31 = .ok (.if_icmp .le 10, 3) := by decide +kernel
theorem dX2_drifted_34 : decode cX2_drifted 34 = .ok (.iload 6, 2) := by decide +kernel
theorem dX2_drifted_36 : decode cX2_drifted 36 = .ok (.iconst 1, 1) := by decide +kernel
theorem dX2_drifted_37 : decode cX2_drifted 37 = .ok (.isub, 1) := by decide +kernel
theorem dX2_drifted_38 : decode cX2_drifted 38 = .ok (.goto 5, 3) := by decide +kernel
theorem dX2_drifted_41 : decode cX2_drifted 41 = .ok (.iload 6, 2) := by decide +kernel
theorem dX2_drifted_43 : decode cX2_drifted 43 = .ok (.iadd, 1) := by decide +kernel
theorem dX2_drifted_44 : decode cX2_drifted 44 = .ok (.istore 7, 2) := by decide +kernel
theorem dX2_drifted_46 : decode cX2_drifted 46 = .ok (.iload 7, 2) := by decide +kernel
theorem dX2_drifted_48 : decode cX2_drifted 48 = .ok (.aload_n 0, 1) := by decide +kernel
theorem dX2_drifted_49 : decode cX2_drifted 49 = .ok (.getfield 9, 3) := by decide +kernel
theorem dX2_drifted_52 : decode cX2_drifted 52 = .ok (.if_icmp .lt 10, 3) := by decide +kernel
theorem dX2_drifted_55 : decode cX2_drifted 55 = .ok (.iconst 0, 1) := by decide +kernel
theorem dX2_drifted_56 : decode cX2_drifted 56 = .ok (.iload 5, 2) := by decide +kernel
theorem dX2_drifted_58 : decode cX2_drifted 58 = .ok (.invokestatic 78, 3) := by decide +kernel
theorem dX2_drifted_61 : decode cX2_drifted 61 = .ok (.ireturn, 1) := by decide +kernel
theorem dX2_drifted_62 : decode cX2_drifted 62 = .ok (.iload 5, 2) := by decide +kernel
theorem dX2_drifted_64 : decode cX2_drifted 64 = .ok (.aload_n 0, 1) := by decide +kernel
theorem dX2_drifted_65 : decode cX2_drifted 65 = .ok (.getfield 18, 3) := by decide +kernel
theorem dX2_drifted_68 : decode cX2_drifted 68 = .ok (.if_icmp .gt 18, 3) := by decide +kernel
theorem dX2_drifted_71 : decode cX2_drifted 71 = .ok (.iload 7, 2) := by decide +kernel
theorem dX2_drifted_73 : decode cX2_drifted 73 = .ok (.aload_n 0, 1) := by decide +kernel
theorem dX2_drifted_74 : decode cX2_drifted 74 = .ok (.getfield 18, 3) := by decide +kernel
theorem dX2_drifted_77 : decode cX2_drifted 77 = .ok (.if_icmp .le 9, 3) := by decide +kernel
theorem dX2_drifted_80 : decode cX2_drifted 80 = .ok (.iload 4, 2) := by decide +kernel
theorem dX2_drifted_82 : decode cX2_drifted 82 = .ok (.iconst 2, 1) := by decide +kernel
theorem dX2_drifted_83 : decode cX2_drifted 83 = .ok (.idiv, 1) := by decide +kernel
theorem dX2_drifted_84 : decode cX2_drifted 84 = .ok (.istore 4, 2) := by decide +kernel
theorem dX2_drifted_86 : decode cX2_drifted 86 = .ok (.iload_n 1, 1) := by decide +kernel
theorem dX2_drifted_87 : decode cX2_drifted 87 = .ok (.iconst 2, 1) := by decide +kernel
theorem dX2_drifted_88 : decode cX2_drifted 88 = .ok (.if_icmp .ne 11, 3) := by decide +kernel
theorem dX2_drifted_91 : decode cX2_drifted 91 = .ok (.iload 4, 2) := by decide +kernel
theorem dX2_drifted_93 : decode cX2_drifted 93 = .ok (.ifCond .le 6, 3) := by decide +kernel
theorem dX2_drifted_96 : decode cX2_drifted 96 = .ok (.iinc 4 (-1), 3) := by decide +kernel
theorem dX2_drifted_99 : decode cX2_drifted 99 = .ok (.iload 4, 2) := by decide +kernel
theorem dX2_drifted_101 : decode cX2_drifted 101 = .ok (.iload 7, 2) := by decide +kernel
theorem dX2_drifted_103 : decode cX2_drifted 103 = .ok (.invokestatic 78, 3) := by decide +kernel
theorem dX2_drifted_106 : decode cX2_drifted 106 = .ok (.ireturn, 1) := by decide +kernel
theorem dX2_climbed_0 : decode cX2_climbed 0 = .ok (.iload_n 1, 1) := by decide +kernel
theorem dX2_climbed_1 : decode cX2_climbed 1 = .ok (.invokestatic 37, 3) := by decide +kernel
theorem dX2_climbed_4 : decode cX2_climbed 4 = .ok (.istore 4, 2) := by decide +kernel
theorem dX2_climbed_6 : decode cX2_climbed 6 = .ok (.iload_n 1, 1) := by decide +kernel
theorem dX2_climbed_7 : decode cX2_climbed 7 = .ok (.invokestatic 51, 3) := by decide +kernel
theorem dX2_climbed_10 : decode cX2_climbed 10 = .ok (.istore 5, 2) := by decide +kernel
theorem dX2_climbed_12 : decode cX2_climbed 12 = .ok (.iconst 0, 1) := by decide +kernel
theorem dX2_climbed_13 : decode cX2_climbed 13 = .ok (.istore 6, 2) := by decide +kernel
theorem dX2_climbed_15 : decode cX2_climbed 15 = .ok (.iload 6, 2) := by decide +kernel
theorem dX2_climbed_17 : decode cX2_climbed 17 = .ok (.iload_n 2, 1) := by decide +kernel
theorem dX2_climbed_18 : decode cX2_climbed 18 = .ok (.if_icmp .ge 58, 3) := by decide +kernel
theorem dX2_climbed_21 : decode cX2_climbed 21 = .ok (.iload 5, 2) := by decide +kernel
theorem dX2_climbed_23 : decode cX2_climbed 23 = .ok (.aload_n 0, 1) := by decide +kernel
theorem dX2_climbed_24 : decode cX2_climbed 24 = .ok (.getfield 18, 3) := by decide +kernel
theorem dX2_climbed_27 : decode cX2_climbed 27 = .ok (.iconst 1, 1) := by decide +kernel
theorem dX2_climbed_28 : decode cX2_climbed 28 = .ok (.iadd, 1) := by decide +kernel
theorem dX2_climbed_29 : decode cX2_climbed 29 = .ok (.if_icmp .ne 14, 3) := by decide +kernel
theorem dX2_climbed_32 : decode cX2_climbed 32 = .ok (.iload 4, 2) := by decide +kernel
theorem dX2_climbed_34 : decode cX2_climbed 34 = .ok (.bipush 20, 2) := by decide +kernel
theorem dX2_climbed_36 : decode cX2_climbed 36 = .ok (.if_icmp .ge 7, 3) := by decide +kernel
theorem dX2_climbed_39 : decode cX2_climbed 39 = .ok (.iconst 1, 1) := by decide +kernel
theorem dX2_climbed_40 : decode cX2_climbed 40 = .ok (.goto 4, 3) := by decide +kernel
theorem dX2_climbed_43 : decode cX2_climbed 43 = .ok (.iconst 0, 1) := by decide +kernel
theorem dX2_climbed_44 : decode cX2_climbed 44 = .ok (.istore 7, 2) := by decide +kernel
theorem dX2_climbed_46 : decode cX2_climbed 46 = .ok (.iload 5, 2) := by decide +kernel
theorem dX2_climbed_48 : decode cX2_climbed 48 = .ok (.ifCond .le 22, 3) := by decide +kernel
theorem dX2_climbed_51 : decode cX2_climbed 51 = .ok (.iload 7, 2) := by decide +kernel
theorem dX2_climbed_53 : decode cX2_climbed 53 = .ok (.ifCond .ne 17, 3) := by decide +kernel
theorem dX2_climbed_56 : decode cX2_climbed 56 = .ok (.aload_n 0, 1) := by decide +kernel
theorem dX2_climbed_57 : decode cX2_climbed 57 = .ok (.iload 5, 2) := by decide +kernel
theorem dX2_climbed_59 : decode cX2_climbed 59 = .ok (.iload_n 3, 1) := by decide +kernel
theorem dX2_climbed_60 : decode cX2_climbed 60 = .ok (.invokevirtual 74, 3) := by decide +kernel
theorem dX2_climbed_63 : decode cX2_climbed 63 = .ok (.iconst 2, 1) := by decide +kernel
theorem dX2_climbed_64 : decode cX2_climbed 64 = .ok (.if_icmp .gt 6, 3) := by decide +kernel
theorem dX2_climbed_67 : decode cX2_climbed 67 = .ok (.iinc 5 (-1), 3) := by decide +kernel
theorem dX2_climbed_70 : decode cX2_climbed 70 = .ok (.iinc 6 1, 3) := by decide +kernel
theorem dX2_climbed_73 : decode cX2_climbed 73 = .ok (.goto (-58), 3) := by decide +kernel
theorem dX2_climbed_76 : decode cX2_climbed 76 = .ok (.iload 4, 2) := by decide +kernel
theorem dX2_climbed_78 : decode cX2_climbed 78 = .ok (.iload 5, 2) := by decide +kernel
theorem dX2_climbed_80 : decode cX2_climbed 80 = .ok (.invokestatic 78, 3) := by decide +kernel
theorem dX2_climbed_83 : decode cX2_climbed 83 = .ok (.ireturn, 1) := by decide +kernel
theorem dX2_foretold_0 : decode cX2_foretold 0 = .ok (.aload_n 0, 1) := by decide +kernel
theorem dX2_foretold_1 : decode cX2_foretold 1 = .ok (.getfield 34, 3) := by decide +kernel
theorem dX2_foretold_4 : decode cX2_foretold 4 = .ok (.iload_n 1, 1) := by decide +kernel
theorem dX2_foretold_5 : decode cX2_foretold 5 = .ok (.iaload, 1) := by decide +kernel
theorem dX2_foretold_6 : decode cX2_foretold 6 = .ok (.istore_n 3, 1) := by decide +kernel
theorem dX2_foretold_7 : decode cX2_foretold 7 = .ok (.iconst 0, 1) := by decide +kernel
theorem dX2_foretold_8 : decode cX2_foretold 8 = .ok (.istore 4, 2) := by decide +kernel
theorem dX2_foretold_10 : decode cX2_foretold 10 = .ok (.iload 4, 2) := by decide +kernel
theorem dX2_foretold_12 : decode cX2_foretold 12 = .ok (.iload_n 2, 1) := by decide +kernel
theorem dX2_foretold_13 : decode cX2_foretold 13 = .ok (.if_icmp .ge 46, 3) := by decide +kernel
theorem dX2_foretold_16 : decode cX2_foretold 16 = .ok (.iload_n 3, 1) := by decide +kernel
theorem dX2_foretold_17 : decode cX2_foretold 17 = .ok (.invokestatic 47, 3) := by decide +kernel
theorem dX2_foretold_20 : decode cX2_foretold 20 = .ok (.ifCond .ne 39, 3) := by decide +kernel
theorem dX2_foretold_23 : decode cX2_foretold 23 = .ok (.aload_n 0, 1) := by decide +kernel
theorem dX2_foretold_24 : decode cX2_foretold 24 = .ok (.aload_n 0, 1) := by decide +kernel
theorem dX2_foretold_25 : decode cX2_foretold 25 = .ok (.getfield 31, 3) := by decide +kernel
theorem dX2_foretold_28 : decode cX2_foretold 28 = .ok (.iload_n 1, 1) := by decide +kernel
theorem dX2_foretold_29 : decode cX2_foretold 29 = .ok (.iaload, 1) := by decide +kernel
theorem dX2_foretold_30 : decode cX2_foretold 30 = .ok (.iload_n 3, 1) := by decide +kernel
theorem dX2_foretold_31 : decode cX2_foretold 31 = .ok (.aload_n 0, 1) := by decide +kernel
theorem dX2_foretold_32 : decode cX2_foretold 32 = .ok (.getfield 24, 3) := by decide +kernel
theorem dX2_foretold_35 : decode cX2_foretold 35 = .ok (.iload 4, 2) := by decide +kernel
theorem dX2_foretold_37 : decode cX2_foretold 37 = .ok (.iadd, 1) := by decide +kernel
theorem dX2_foretold_38 : decode cX2_foretold 38 = .ok (.aload_n 0, 1) := by decide +kernel
theorem dX2_foretold_39 : decode cX2_foretold 39 = .ok (.aload_n 0, 1) := by decide +kernel
theorem dX2_foretold_40 : decode cX2_foretold 40 = .ok (.getfield 24, 3) := by decide +kernel
theorem dX2_foretold_43 : decode cX2_foretold 43 = .ok (.iload 4, 2) := by decide +kernel
theorem dX2_foretold_45 : decode cX2_foretold 45 = .ok (.iadd, 1) := by decide +kernel
theorem dX2_foretold_46 : decode cX2_foretold 46 = .ok (.invokevirtual 60, 3) := by decide +kernel
theorem dX2_foretold_49 : decode cX2_foretold 49 = .ok (.invokevirtual 63, 3) := by decide +kernel
theorem dX2_foretold_52 : decode cX2_foretold 52 = .ok (.istore_n 3, 1) := by decide +kernel
theorem dX2_foretold_53 : decode cX2_foretold 53 = .ok (.iinc 4 1, 3) := by decide +kernel
theorem dX2_foretold_56 : decode cX2_foretold 56 = .ok (.goto (-46), 3) := by decide +kernel
theorem dX2_foretold_59 : decode cX2_foretold 59 = .ok (.iload_n 3, 1) := by decide +kernel
theorem dX2_foretold_60 : decode cX2_foretold 60 = .ok (.ireturn, 1) := by decide +kernel
theorem dX2_foretoldIn_0 : decode cX2_foretoldIn 0 = .ok (.aload_n 0, 1) := by decide +kernel
theorem dX2_foretoldIn_1 : decode cX2_foretoldIn 1 = .ok (.getfield 34, 3) := by decide +kernel
theorem dX2_foretoldIn_4 : decode cX2_foretoldIn 4 = .ok (.iload_n 1, 1) := by decide +kernel
theorem dX2_foretoldIn_5 : decode cX2_foretoldIn 5 = .ok (.iaload, 1) := by decide +kernel
theorem dX2_foretoldIn_6 : decode cX2_foretoldIn 6 = .ok (.istore 4, 2) := by decide +kernel
theorem dX2_foretoldIn_8 : decode cX2_foretoldIn 8 = .ok (.iconst 0, 1) := by decide +kernel
theorem dX2_foretoldIn_9 : decode cX2_foretoldIn 9 = .ok (.istore 5, 2) := by decide +kernel
theorem dX2_foretoldIn_11 : decode cX2_foretoldIn 11 = .ok (.iload 5, 2) := by decide +kernel
theorem dX2_foretoldIn_13 : decode cX2_foretoldIn 13 = .ok (.iload_n 2, 1) := by decide +kernel
theorem dX2_foretoldIn_14 : decode cX2_foretoldIn 14 = .ok (.if_icmp .ge 45, 3) := by decide +kernel
theorem dX2_foretoldIn_17 : decode cX2_foretoldIn 17 = .ok (.aload_n 0, 1) := by decide +kernel
theorem dX2_foretoldIn_18 : decode cX2_foretoldIn 18 = .ok (.aload_n 0, 1) := by decide +kernel
theorem dX2_foretoldIn_19 : decode cX2_foretoldIn 19 = .ok (.getfield 31, 3) := by decide +kernel
theorem dX2_foretoldIn_22 : decode cX2_foretoldIn 22 = .ok (.iload_n 1, 1) := by decide +kernel
theorem dX2_foretoldIn_23 : decode cX2_foretoldIn 23 = .ok (.iaload, 1) := by decide +kernel
theorem dX2_foretoldIn_24 : decode cX2_foretoldIn 24 = .ok (.iload 4, 2) := by decide +kernel
theorem dX2_foretoldIn_26 : decode cX2_foretoldIn 26 = .ok (.aload_n 0, 1) := by decide +kernel
theorem dX2_foretoldIn_27 : decode cX2_foretoldIn 27 = .ok (.getfield 24, 3) := by decide +kernel
theorem dX2_foretoldIn_30 : decode cX2_foretoldIn 30 = .ok (.iload 5, 2) := by decide +kernel
theorem dX2_foretoldIn_32 : decode cX2_foretoldIn 32 = .ok (.iadd, 1) := by decide +kernel
theorem dX2_foretoldIn_33 : decode cX2_foretoldIn 33 = .ok (.iload_n 3, 1) := by decide +kernel
theorem dX2_foretoldIn_34 : decode cX2_foretoldIn 34 = .ok (.iload 5, 2) := by decide +kernel
theorem dX2_foretoldIn_36 : decode cX2_foretoldIn 36 = .ok (.ishr, 1) := by decide +kernel
theorem dX2_foretoldIn_37 : decode cX2_foretoldIn 37 = .ok (.iconst 1, 1) := by decide +kernel
theorem dX2_foretoldIn_38 : decode cX2_foretoldIn 38 = .ok (.iand, 1) := by decide +kernel
theorem dX2_foretoldIn_39 : decode cX2_foretoldIn 39 = .ok (.iconst 1, 1) := by decide +kernel
theorem dX2_foretoldIn_40 : decode cX2_foretoldIn 40 = .ok (.if_icmp .ne 7, 3) := by decide +kernel
theorem dX2_foretoldIn_43 : decode cX2_foretoldIn 43 = .ok (.iconst 1, 1) := by decide +kernel
theorem dX2_foretoldIn_44 : decode cX2_foretoldIn 44 = .ok (.goto 4, 3) := by decide +kernel
theorem dX2_foretoldIn_47 : decode cX2_foretoldIn 47 = .ok (.iconst 0, 1) := by decide +kernel
theorem dX2_foretoldIn_48 : decode cX2_foretoldIn 48 = .ok (.invokevirtual 63, 3) := by decide +kernel
theorem dX2_foretoldIn_51 : decode cX2_foretoldIn 51 = .ok (.istore 4, 2) := by decide +kernel
theorem dX2_foretoldIn_53 : decode cX2_foretoldIn 53 = .ok (.iinc 5 1, 3) := by decide +kernel
theorem dX2_foretoldIn_56 : decode cX2_foretoldIn 56 = .ok (.goto (-45), 3) := by decide +kernel
theorem dX2_foretoldIn_59 : decode cX2_foretoldIn 59 = .ok (.iload 4, 2) := by decide +kernel
theorem dX2_foretoldIn_61 : decode cX2_foretoldIn 61 = .ok (.ireturn, 1) := by decide +kernel
theorem dX2_goneBehind_0 : decode cX2_goneBehind 0 = .ok (.aload_n 0, 1) := by decide +kernel
theorem dX2_goneBehind_1 : decode cX2_goneBehind 1 = .ok (.getfield 34, 3) := by decide +kernel
theorem dX2_goneBehind_4 : decode cX2_goneBehind 4 = .ok (.iload_n 1, 1) := by decide +kernel
theorem dX2_goneBehind_5 : decode cX2_goneBehind 5 = .ok (.iaload, 1) := by decide +kernel
theorem dX2_goneBehind_6 : decode cX2_goneBehind 6 = .ok (.istore_n 3, 1) := by decide +kernel
theorem dX2_goneBehind_7 : decode cX2_goneBehind 7 = .ok (.iconst 0, 1) := by decide +kernel
theorem dX2_goneBehind_8 : decode cX2_goneBehind 8 = .ok (.istore 4, 2) := by decide +kernel
theorem dX2_goneBehind_10 : decode cX2_goneBehind 10 = .ok (.iload 4, 2) := by decide +kernel
theorem dX2_goneBehind_12 : decode cX2_goneBehind 12 = .ok (.iload_n 2, 1) := by decide +kernel
theorem dX2_goneBehind_13 : decode cX2_goneBehind 13 = .ok (.if_icmp .gt 49, 3) := by decide +kernel
theorem dX2_goneBehind_16 : decode cX2_goneBehind 16 = .ok (.iload_n 3, 1) := by decide +kernel
theorem dX2_goneBehind_17 : decode cX2_goneBehind 17 = .ok (.invokestatic 47, 3) := by decide +kernel
theorem dX2_goneBehind_20 : decode cX2_goneBehind 20 = .ok (.ifCond .eq 6, 3) := by decide +kernel
theorem dX2_goneBehind_23 : decode cX2_goneBehind 23 = .ok (.iload 4, 2) := by decide +kernel
theorem dX2_goneBehind_25 : decode cX2_goneBehind 25 = .ok (.ireturn, 1) := by decide +kernel
theorem dX2_goneBehind_26 : decode cX2_goneBehind 26 = .ok (.aload_n 0, 1) := by decide +kernel
theorem dX2_goneBehind_27 : decode cX2_goneBehind 27 = .ok (.aload_n 0, 1) := by decide +kernel
theorem dX2_goneBehind_28 : decode cX2_goneBehind 28 = .ok (.getfield 31, 3) := by decide +kernel
theorem dX2_goneBehind_31 : decode cX2_goneBehind 31 = .ok (.iload_n 1, 1) := by decide +kernel
theorem dX2_goneBehind_32 : decode cX2_goneBehind 32 = .ok (.iaload, 1) := by decide +kernel
theorem dX2_goneBehind_33 : decode cX2_goneBehind 33 = .ok (.iload_n 3, 1) := by decide +kernel
theorem dX2_goneBehind_34 : decode cX2_goneBehind 34 = .ok (.aload_n 0, 1) := by decide +kernel
theorem dX2_goneBehind_35 : decode cX2_goneBehind 35 = .ok (.getfield 24, 3) := by decide +kernel
theorem dX2_goneBehind_38 : decode cX2_goneBehind 38 = .ok (.iload 4, 2) := by decide +kernel
theorem dX2_goneBehind_40 : decode cX2_goneBehind 40 = .ok (.iadd, 1) := by decide +kernel
theorem dX2_goneBehind_41 : decode cX2_goneBehind 41 = .ok (.aload_n 0, 1) := by decide +kernel
theorem dX2_goneBehind_42 : decode cX2_goneBehind 42 = .ok (.aload_n 0, 1) := by decide +kernel
theorem dX2_goneBehind_43 : decode cX2_goneBehind 43 = .ok (.getfield 24, 3) := by decide +kernel
theorem dX2_goneBehind_46 : decode cX2_goneBehind 46 = .ok (.iload 4, 2) := by decide +kernel
theorem dX2_goneBehind_48 : decode cX2_goneBehind 48 = .ok (.iadd, 1) := by decide +kernel
theorem dX2_goneBehind_49 : decode cX2_goneBehind 49 = .ok (.invokevirtual 60, 3) := by decide +kernel
theorem dX2_goneBehind_52 : decode cX2_goneBehind 52 = .ok (.invokevirtual 63, 3) := by decide +kernel
theorem dX2_goneBehind_55 : decode cX2_goneBehind 55 = .ok (.istore_n 3, 1) := by decide +kernel
theorem dX2_goneBehind_56 : decode cX2_goneBehind 56 = .ok (.iinc 4 1, 3) := by decide +kernel
theorem dX2_goneBehind_59 : decode cX2_goneBehind 59 = .ok (.goto (-49), 3) := by decide +kernel
theorem dX2_goneBehind_62 : decode cX2_goneBehind 62 = .ok (.ldc 82, 2) := by decide +kernel
theorem dX2_goneBehind_64 : decode cX2_goneBehind 64 = .ok (.ireturn, 1) := by decide +kernel
theorem dX2_quarrelBehind_0 : decode cX2_quarrelBehind 0 = .ok (.iconst 0, 1) := by decide +kernel
theorem dX2_quarrelBehind_1 : decode cX2_quarrelBehind 1 = .ok (.istore_n 2, 1) := by decide +kernel
theorem dX2_quarrelBehind_2 : decode cX2_quarrelBehind 2 = .ok (.iconst 0, 1) := by decide +kernel
theorem dX2_quarrelBehind_3 : decode cX2_quarrelBehind 3 = .ok (.istore_n 3, 1) := by decide +kernel
theorem dX2_quarrelBehind_4 : decode cX2_quarrelBehind 4 = .ok (.iload_n 3, 1) := by decide +kernel
theorem dX2_quarrelBehind_5 : decode cX2_quarrelBehind 5 = .ok (.aload_n 0, 1) := by decide +kernel
theorem dX2_quarrelBehind_6 : decode cX2_quarrelBehind 6 = .ok (.getfield 15, 3) := by decide +kernel
theorem dX2_quarrelBehind_9 : decode cX2_quarrelBehind 9 = .ok (.if_icmp .ge 21, 3) := by decide +kernel
theorem dX2_quarrelBehind_12 : decode cX2_quarrelBehind 12 = .ok (.iload_n 2, 1) := by decide +kernel
theorem dX2_quarrelBehind_13 : decode cX2_quarrelBehind 13 = .ok (.aload_n 0, 1) := by decide +kernel
theorem dX2_quarrelBehind_14 : decode cX2_quarrelBehind 14 = .ok (.iload_n 3, 1) := by decide +kernel
theorem dX2_quarrelBehind_15 : decode cX2_quarrelBehind 15 = .ok (.iload_n 1, 1) := by decide +kernel
theorem dX2_quarrelBehind_16 : decode cX2_quarrelBehind 16 = .ok (.invokevirtual 83, 3) := by decide +kernel
theorem dX2_quarrelBehind_19 : decode cX2_quarrelBehind 19 = .ok (.invokestatic 37, 3) := by decide +kernel
theorem dX2_quarrelBehind_22 : decode cX2_quarrelBehind 22 = .ok (.iadd, 1) := by decide +kernel
theorem dX2_quarrelBehind_23 : decode cX2_quarrelBehind 23 = .ok (.istore_n 2, 1) := by decide +kernel
theorem dX2_quarrelBehind_24 : decode cX2_quarrelBehind 24 = .ok (.iinc 3 1, 3) := by decide +kernel
theorem dX2_quarrelBehind_27 : decode cX2_quarrelBehind 27 = .ok (.goto (-23), 3) := by decide +kernel
theorem dX2_quarrelBehind_30 : decode cX2_quarrelBehind 30 = .ok (.iload_n 2, 1) := by decide +kernel
theorem dX2_quarrelBehind_31 : decode cX2_quarrelBehind 31 = .ok (.ireturn, 1) := by decide +kernel
theorem dX2_isAllGoneBehind_0 : decode cX2_isAllGoneBehind 0 = .ok (.iconst 0, 1) := by decide +kernel
theorem dX2_isAllGoneBehind_1 : decode cX2_isAllGoneBehind 1 = .ok (.istore_n 2, 1) := by decide +kernel
theorem dX2_isAllGoneBehind_2 : decode cX2_isAllGoneBehind 2 = .ok (.iload_n 2, 1) := by decide +kernel
theorem dX2_isAllGoneBehind_3 : decode cX2_isAllGoneBehind 3 = .ok (.aload_n 0, 1) := by decide +kernel
theorem dX2_isAllGoneBehind_4 : decode cX2_isAllGoneBehind 4 = .ok (.getfield 15, 3) := by decide +kernel
theorem dX2_isAllGoneBehind_7 : decode cX2_isAllGoneBehind 7 = .ok (.if_icmp .ge 23, 3) := by decide +kernel
theorem dX2_isAllGoneBehind_10 : decode cX2_isAllGoneBehind 10 = .ok (.aload_n 0, 1) := by decide +kernel
theorem dX2_isAllGoneBehind_11 : decode cX2_isAllGoneBehind 11 = .ok (.iload_n 2, 1) := by decide +kernel
theorem dX2_isAllGoneBehind_12 : decode cX2_isAllGoneBehind 12 = .ok (.iload_n 1, 1) := by decide +kernel
theorem dX2_isAllGoneBehind_13 : decode cX2_isAllGoneBehind 13 = .ok (.invokevirtual 83, 3) := by decide +kernel
theorem dX2_isAllGoneBehind_16 : decode cX2_isAllGoneBehind 16 = .ok (.invokestatic 47, 3) := by decide +kernel
theorem dX2_isAllGoneBehind_19 : decode cX2_isAllGoneBehind 19 = .ok (.ifCond .ne 5, 3) := by decide +kernel
theorem dX2_isAllGoneBehind_22 : decode cX2_isAllGoneBehind 22 = .ok (.iconst 0, 1) := by decide +kernel
theorem dX2_isAllGoneBehind_23 : decode cX2_isAllGoneBehind 23 = .ok (.ireturn, 1) := by decide +kernel
theorem dX2_isAllGoneBehind_24 : decode cX2_isAllGoneBehind 24 = .ok (.iinc 2 1, 3) := by decide +kernel
theorem dX2_isAllGoneBehind_27 : decode cX2_isAllGoneBehind 27 = .ok (.goto (-25), 3) := by decide +kernel
theorem dX2_isAllGoneBehind_30 : decode cX2_isAllGoneBehind 30 = .ok (.iconst 1, 1) := by decide +kernel
theorem dX2_isAllGoneBehind_31 : decode cX2_isAllGoneBehind 31 = .ok (.ireturn, 1) := by decide +kernel
theorem dX2_goesAsTold_0 : decode cX2_goesAsTold 0 = .ok (.iload_n 2, 1) := by decide +kernel
theorem dX2_goesAsTold_1 : decode cX2_goesAsTold 1 = .ok (.istore 6, 2) := by decide +kernel
theorem dX2_goesAsTold_3 : decode cX2_goesAsTold 3 = .ok (.iconst 0, 1) := by decide +kernel
theorem dX2_goesAsTold_4 : decode cX2_goesAsTold 4 = .ok (.istore 7, 2) := by decide +kernel
theorem dX2_goesAsTold_6 : decode cX2_goesAsTold 6 = .ok (.iload 7, 2) := by decide +kernel
theorem dX2_goesAsTold_8 : decode cX2_goesAsTold 8 = .ok (.iload 5, 2) := by decide +kernel
theorem dX2_goesAsTold_10 : decode cX2_goesAsTold 10 = .ok (.if_icmp .ge 66, 3) := by decide +kernel
theorem dX2_goesAsTold_13 : decode cX2_goesAsTold 13 = .ok (.aload_n 0, 1) := by decide +kernel
theorem dX2_goesAsTold_14 : decode cX2_goesAsTold 14 = .ok (.iload_n 1, 1) := by decide +kernel
theorem dX2_goesAsTold_15 : decode cX2_goesAsTold 15 = .ok (.iload 6, 2) := by decide +kernel
theorem dX2_goesAsTold_17 : decode cX2_goesAsTold 17 = .ok (.aload_n 0, 1) := by decide +kernel
theorem dX2_goesAsTold_18 : decode cX2_goesAsTold 18 = .ok (.getfield 24, 3) := by decide +kernel
theorem dX2_goesAsTold_21 : decode cX2_goesAsTold 21 = .ok (.iload 7, 2) := by decide +kernel
theorem dX2_goesAsTold_23 : decode cX2_goesAsTold 23 = .ok (.iadd, 1) := by decide +kernel
theorem dX2_goesAsTold_24 : decode cX2_goesAsTold 24 = .ok (.aload_n 0, 1) := by decide +kernel
theorem dX2_goesAsTold_25 : decode cX2_goesAsTold 25 = .ok (.aload_n 0, 1) := by decide +kernel
theorem dX2_goesAsTold_26 : decode cX2_goesAsTold 26 = .ok (.getfield 24, 3) := by decide +kernel
theorem dX2_goesAsTold_29 : decode cX2_goesAsTold 29 = .ok (.iload 7, 2) := by decide +kernel
theorem dX2_goesAsTold_31 : decode cX2_goesAsTold 31 = .ok (.iadd, 1) := by decide +kernel
theorem dX2_goesAsTold_32 : decode cX2_goesAsTold 32 = .ok (.invokevirtual 60, 3) := by decide +kernel
theorem dX2_goesAsTold_35 : decode cX2_goesAsTold 35 = .ok (.invokevirtual 63, 3) := by decide +kernel
theorem dX2_goesAsTold_38 : decode cX2_goesAsTold 38 = .ok (.istore 6, 2) := by decide +kernel
theorem dX2_goesAsTold_40 : decode cX2_goesAsTold 40 = .ok (.aload_n 3, 1) := by decide +kernel
theorem dX2_goesAsTold_41 : decode cX2_goesAsTold 41 = .ok (.iload 4, 2) := by decide +kernel
theorem dX2_goesAsTold_43 : decode cX2_goesAsTold 43 = .ok (.iload 7, 2) := by decide +kernel
theorem dX2_goesAsTold_45 : decode cX2_goesAsTold 45 = .ok (.iadd, 1) := by decide +kernel
theorem dX2_goesAsTold_46 : decode cX2_goesAsTold 46 = .ok (.iaload, 1) := by decide +kernel
theorem dX2_goesAsTold_47 : decode cX2_goesAsTold 47 = .ok (.iload 6, 2) := by decide +kernel
theorem dX2_goesAsTold_49 : decode cX2_goesAsTold 49 = .ok (.invokestatic 47, 3) := by decide +kernel
theorem dX2_goesAsTold_52 : decode cX2_goesAsTold 52 = .ok (.ifCond .eq 8, 3) := by decide +kernel
theorem dX2_goesAsTold_55 : decode cX2_goesAsTold 55 = .ok (.bipush 99, 2) := by decide +kernel
theorem dX2_goesAsTold_57 : decode cX2_goesAsTold 57 = .ok (.goto 8, 3) := by decide +kernel
theorem dX2_goesAsTold_60 : decode cX2_goesAsTold 60 = .ok (.iload 6, 2) := by decide +kernel
theorem dX2_goesAsTold_62 : decode cX2_goesAsTold 62 = .ok (.invokestatic 51, 3) := by decide +kernel
theorem dX2_goesAsTold_65 : decode cX2_goesAsTold 65 = .ok (.if_icmp .eq 5, 3) := by decide +kernel
theorem dX2_goesAsTold_68 : decode cX2_goesAsTold 68 = .ok (.iconst 0, 1) := by decide +kernel
theorem dX2_goesAsTold_69 : decode cX2_goesAsTold 69 = .ok (.ireturn, 1) := by decide +kernel
theorem dX2_goesAsTold_70 : decode cX2_goesAsTold 70 = .ok (.iinc 7 1, 3) := by decide +kernel
theorem dX2_goesAsTold_73 : decode cX2_goesAsTold 73 = .ok (.goto (-67), 3) := by decide +kernel
theorem dX2_goesAsTold_76 : decode cX2_goesAsTold 76 = .ok (.iconst 1, 1) := by decide +kernel
theorem dX2_goesAsTold_77 : decode cX2_goesAsTold 77 = .ok (.ireturn, 1) := by decide +kernel
theorem dX2_sayDrawn_0 : decode cX2_sayDrawn 0 = .ok (.aload_n 0, 1) := by decide +kernel
theorem dX2_sayDrawn_1 : decode cX2_sayDrawn 1 = .ok (.getfield 15, 3) := by decide +kernel
theorem dX2_sayDrawn_4 : decode cX2_sayDrawn 4 = .ok (.ifCond .eq 10, 3) := by decide +kernel
theorem dX2_sayDrawn_7 : decode cX2_sayDrawn 7 = .ok (.aload_n 0, 1) := by decide +kernel
theorem dX2_sayDrawn_8 : decode cX2_sayDrawn 8 = .ok (.getfield 9, 3) := by decide +kernel
theorem dX2_sayDrawn_11 : decode cX2_sayDrawn 11 = .ok (.ifCond .ne 5, 3) := by decide +kernel
theorem dX2_sayDrawn_14 : decode cX2_sayDrawn 14 = .ok (.iconst 0, 1) := by decide +kernel
theorem dX2_sayDrawn_15 : decode cX2_sayDrawn 15 = .ok (.ireturn, 1) := by decide +kernel
theorem dX2_sayDrawn_16 : decode cX2_sayDrawn 16 = .ok (.iload_n 1, 1) := by decide +kernel
theorem dX2_sayDrawn_17 : decode cX2_sayDrawn 17 = .ok (.aload_n 0, 1) := by decide +kernel
theorem dX2_sayDrawn_18 : decode cX2_sayDrawn 18 = .ok (.getfield 15, 3) := by decide +kernel
theorem dX2_sayDrawn_21 : decode cX2_sayDrawn 21 = .ok (.irem, 1) := by decide +kernel
theorem dX2_sayDrawn_22 : decode cX2_sayDrawn 22 = .ok (.istore_n 2, 1) := by decide +kernel
theorem dX2_sayDrawn_23 : decode cX2_sayDrawn 23 = .ok (.aload_n 0, 1) := by decide +kernel
theorem dX2_sayDrawn_24 : decode cX2_sayDrawn 24 = .ok (.getfield 34, 3) := by decide +kernel
theorem dX2_sayDrawn_27 : decode cX2_sayDrawn 27 = .ok (.iload_n 2, 1) := by decide +kernel
theorem dX2_sayDrawn_28 : decode cX2_sayDrawn 28 = .ok (.iaload, 1) := by decide +kernel
theorem dX2_sayDrawn_29 : decode cX2_sayDrawn 29 = .ok (.invokestatic 47, 3) := by decide +kernel
theorem dX2_sayDrawn_32 : decode cX2_sayDrawn 32 = .ok (.ifCond .ne 5, 3) := by decide +kernel
theorem dX2_sayDrawn_35 : decode cX2_sayDrawn 35 = .ok (.iconst 0, 1) := by decide +kernel
theorem dX2_sayDrawn_36 : decode cX2_sayDrawn 36 = .ok (.ireturn, 1) := by decide +kernel
theorem dX2_sayDrawn_37 : decode cX2_sayDrawn 37 = .ok (.aload_n 0, 1) := by decide +kernel
theorem dX2_sayDrawn_38 : decode cX2_sayDrawn 38 = .ok (.getfield 34, 3) := by decide +kernel
theorem dX2_sayDrawn_41 : decode cX2_sayDrawn 41 = .ok (.iload_n 2, 1) := by decide +kernel
theorem dX2_sayDrawn_42 : decode cX2_sayDrawn 42 = .ok (.iconst 1, 1) := by decide +kernel
theorem dX2_sayDrawn_43 : decode cX2_sayDrawn 43 = .ok (.iload_n 1, 1) := by decide +kernel
theorem dX2_sayDrawn_44 : decode cX2_sayDrawn 44 = .ok (.bipush 60, 2) := by decide +kernel
theorem dX2_sayDrawn_46 : decode cX2_sayDrawn 46 = .ok (.irem, 1) := by decide +kernel
theorem dX2_sayDrawn_47 : decode cX2_sayDrawn 47 = .ok (.iadd, 1) := by decide +kernel
theorem dX2_sayDrawn_48 : decode cX2_sayDrawn 48 = .ok (.iload_n 1, 1) := by decide +kernel
theorem dX2_sayDrawn_49 : decode cX2_sayDrawn 49 = .ok (.aload_n 0, 1) := by decide +kernel
theorem dX2_sayDrawn_50 : decode cX2_sayDrawn 50 = .ok (.getfield 9, 3) := by decide +kernel
theorem dX2_sayDrawn_53 : decode cX2_sayDrawn 53 = .ok (.irem, 1) := by decide +kernel
theorem dX2_sayDrawn_54 : decode cX2_sayDrawn 54 = .ok (.invokestatic 78, 3) := by decide +kernel
theorem dX2_sayDrawn_57 : decode cX2_sayDrawn 57 = .ok (.iastore, 1) := by decide +kernel
theorem dX2_sayDrawn_58 : decode cX2_sayDrawn 58 = .ok (.iconst 1, 1) := by decide +kernel
theorem dX2_sayDrawn_59 : decode cX2_sayDrawn 59 = .ok (.ireturn, 1) := by decide +kernel
theorem dX3_init_0 : decode cX3_init 0 = .ok (.aload_n 0, 1) := by decide +kernel
theorem dX3_init_1 : decode cX3_init 1 = .ok (.invokespecial 1, 3) := by decide +kernel
theorem dX3_init_4 : decode cX3_init 4 = .ok (.aload_n 0, 1) := by decide +kernel
theorem dX3_init_5 : decode cX3_init 5 = .ok (.bipush 8, 2) := by decide +kernel
theorem dX3_init_7 : decode cX3_init 7 = .ok (.bipush 40, 2) := by decide +kernel
theorem dX3_init_9 : decode cX3_init 9 = .ok (.multianewarray 9 2, 4) := by decide +kernel
theorem dX3_init_13 : decode cX3_init 13 = .ok (.putfield 11, 3) := by decide +kernel
theorem dX3_init_16 : decode cX3_init 16 = .ok (.aload_n 0, 1) := by decide +kernel
theorem dX3_init_17 : decode cX3_init 17 = .ok (.bipush 8, 2) := by decide +kernel
theorem dX3_init_19 : decode cX3_init 19 = .ok (.newarray .int, 2) := by decide +kernel
theorem dX3_init_21 : decode cX3_init 21 = .ok (.putfield 14, 3) := by decide +kernel
theorem dX3_init_24 : decode cX3_init 24 = .ok (.aload_n 0, 1) := by decide +kernel
theorem dX3_init_25 : decode cX3_init 25 = .ok (.bipush 8, 2) := by decide +kernel
theorem dX3_init_27 : decode cX3_init 27 = .ok (.newarray .int, 2) := by decide +kernel
theorem dX3_init_29 : decode cX3_init 29 = .ok (.putfield 18, 3) := by decide +kernel
theorem dX3_init_32 : decode cX3_init 32 = .ok (.aload_n 0, 1) := by decide +kernel
theorem dX3_init_33 : decode cX3_init 33 = .ok (.getfield 18, 3) := by decide +kernel
theorem dX3_init_36 : decode cX3_init 36 = .ok (.iconst (-1), 1) := by decide +kernel
theorem dX3_init_37 : decode cX3_init 37 = .ok (.invokestatic 21, 3) := by decide +kernel
theorem dX3_init_40 : decode cX3_init 40 = .ok (.return_, 1) := by decide +kernel
theorem dX3_isRow_0 : decode cX3_isRow 0 = .ok (.iload_n 0, 1) := by decide +kernel
theorem dX3_isRow_1 : decode cX3_isRow 1 = .ok (.ifCond .lt 13, 3) := by decide +kernel
theorem dX3_isRow_4 : decode cX3_isRow 4 = .ok (.iload_n 0, 1) := by decide +kernel
theorem dX3_isRow_5 : decode cX3_isRow 5 = .ok (.bipush 8, 2) := by decide +kernel
theorem dX3_isRow_7 : decode cX3_isRow 7 = .ok (.if_icmp .ge 7, 3) := by decide +kernel
theorem dX3_isRow_10 : decode cX3_isRow 10 = .ok (.iconst 1, 1) := by decide +kernel
theorem dX3_isRow_11 : decode cX3_isRow 11 = .ok (.goto 4, 3) := by decide +kernel
theorem dX3_isRow_14 : decode cX3_isRow 14 = .ok (.iconst 0, 1) := by decide +kernel
theorem dX3_isRow_15 : decode cX3_isRow 15 = .ok (.ireturn, 1) := by decide +kernel
theorem dX3_isLane_0 : decode cX3_isLane 0 = .ok (.iload_n 0, 1) := by decide +kernel
theorem dX3_isLane_1 : decode cX3_isLane 1 = .ok (.ifCond .lt 12, 3) := by decide +kernel
theorem dX3_isLane_4 : decode cX3_isLane 4 = .ok (.iload_n 0, 1) := by decide +kernel
theorem dX3_isLane_5 : decode cX3_isLane 5 = .ok (.iconst 2, 1) := by decide +kernel
theorem dX3_isLane_6 : decode cX3_isLane 6 = .ok (.if_icmp .gt 7, 3) := by decide +kernel
theorem dX3_isLane_9 : decode cX3_isLane 9 = .ok (.iconst 1, 1) := by decide +kernel
theorem dX3_isLane_10 : decode cX3_isLane 10 = .ok (.goto 4, 3) := by decide +kernel
theorem dX3_isLane_13 : decode cX3_isLane 13 = .ok (.iconst 0, 1) := by decide +kernel
theorem dX3_isLane_14 : decode cX3_isLane 14 = .ok (.ireturn, 1) := by decide +kernel
theorem dX3_isMissing_0 : decode cX3_isMissing 0 = .ok (.aload_n 0, 1) := by decide +kernel
theorem dX3_isMissing_1 : decode cX3_isMissing 1 = .ok (.getfield 18, 3) := by decide +kernel
theorem dX3_isMissing_4 : decode cX3_isMissing 4 = .ok (.iload_n 1, 1) := by decide +kernel
theorem dX3_isMissing_5 : decode cX3_isMissing 5 = .ok (.iaload, 1) := by decide +kernel
theorem dX3_isMissing_6 : decode cX3_isMissing 6 = .ok (.iconst (-1), 1) := by decide +kernel
theorem dX3_isMissing_7 : decode cX3_isMissing 7 = .ok (.if_icmp .ne 7, 3) := by decide +kernel
theorem dX3_isMissing_10 : decode cX3_isMissing 10 = .ok (.iconst 1, 1) := by decide +kernel
theorem dX3_isMissing_11 : decode cX3_isMissing 11 = .ok (.goto 4, 3) := by decide +kernel
theorem dX3_isMissing_14 : decode cX3_isMissing 14 = .ok (.iconst 0, 1) := by decide +kernel
theorem dX3_isMissing_15 : decode cX3_isMissing 15 = .ok (.ireturn, 1) := by decide +kernel
theorem dX3_haveOneLane_0 : decode cX3_haveOneLane 0 = .ok (.aload_n 0, 1) := by decide +kernel
theorem dX3_haveOneLane_1 : decode cX3_haveOneLane 1 = .ok (.getfield 14, 3) := by decide +kernel
theorem dX3_haveOneLane_4 : decode cX3_haveOneLane 4 = .ok (.iload_n 1, 1) := by decide +kernel
theorem dX3_haveOneLane_5 : decode cX3_haveOneLane 5 = .ok (.iaload, 1) := by decide +kernel
theorem dX3_haveOneLane_6 : decode cX3_haveOneLane 6 = .ok (.aload_n 0, 1) := by decide +kernel
theorem dX3_haveOneLane_7 : decode cX3_haveOneLane 7 = .ok (.getfield 14, 3) := by decide +kernel
theorem dX3_haveOneLane_10 : decode cX3_haveOneLane 10 = .ok (.iload_n 2, 1) := by decide +kernel
theorem dX3_haveOneLane_11 : decode cX3_haveOneLane 11 = .ok (.iaload, 1) := by decide +kernel
theorem dX3_haveOneLane_12 : decode cX3_haveOneLane 12 = .ok (.if_icmp .ne 7, 3) := by decide +kernel
theorem dX3_haveOneLane_15 : decode cX3_haveOneLane 15 = .ok (.iconst 1, 1) := by decide +kernel
theorem dX3_haveOneLane_16 : decode cX3_haveOneLane 16 = .ok (.goto 4, 3) := by decide +kernel
theorem dX3_haveOneLane_19 : decode cX3_haveOneLane 19 = .ok (.iconst 0, 1) := by decide +kernel
theorem dX3_haveOneLane_20 : decode cX3_haveOneLane 20 = .ok (.ireturn, 1) := by decide +kernel
theorem dX3_hasPlaces_0 : decode cX3_hasPlaces 0 = .ok (.iload_n 3, 1) := by decide +kernel
theorem dX3_hasPlaces_1 : decode cX3_hasPlaces 1 = .ok (.ifCond .lt 23, 3) := by decide +kernel
theorem dX3_hasPlaces_4 : decode cX3_hasPlaces 4 = .ok (.iload_n 2, 1) := by decide +kernel
theorem dX3_hasPlaces_5 : decode cX3_hasPlaces 5 = .ok (.ifCond .lt 19, 3) := by decide +kernel
theorem dX3_hasPlaces_8 : decode cX3_hasPlaces 8 = .ok (.iload_n 2, 1) := by decide +kernel
theorem dX3_hasPlaces_9 : decode cX3_hasPlaces 9 = .ok (.aload_n 0, 1) := by decide +kernel
theorem dX3_hasPlaces_10 : decode cX3_hasPlaces 10 = .ok (.getfield 18, 3) := by decide +kernel
theorem dX3_hasPlaces_13 : decode cX3_hasPlaces 13 = .ok (.iload_n 1, 1) := by decide +kernel
theorem dX3_hasPlaces_14 : decode cX3_hasPlaces 14 = .ok (.iaload, 1) := by decide +kernel
theorem dX3_hasPlaces_15 : decode cX3_hasPlaces 15 = .ok (.iload_n 3, 1) := by decide +kernel
theorem dX3_hasPlaces_16 : decode cX3_hasPlaces 16 = .ok (.isub, 1) := by decide +kernel
theorem dX3_hasPlaces_17 : decode cX3_hasPlaces 17 = .ok (.if_icmp .gt 7, 3) := by decide +kernel
theorem dX3_hasPlaces_20 : decode cX3_hasPlaces 20 = .ok (.iconst 1, 1) := by decide +kernel
theorem dX3_hasPlaces_21 : decode cX3_hasPlaces 21 = .ok (.goto 4, 3) := by decide +kernel
theorem dX3_hasPlaces_24 : decode cX3_hasPlaces 24 = .ok (.iconst 0, 1) := by decide +kernel
theorem dX3_hasPlaces_25 : decode cX3_hasPlaces 25 = .ok (.ireturn, 1) := by decide +kernel
theorem dX3_lay_0 : decode cX3_lay 0 = .ok (.aload_n 0, 1) := by decide +kernel
theorem dX3_lay_1 : decode cX3_lay 1 = .ok (.getfield 14, 3) := by decide +kernel
theorem dX3_lay_4 : decode cX3_lay 4 = .ok (.iload_n 1, 1) := by decide +kernel
theorem dX3_lay_5 : decode cX3_lay 5 = .ok (.iload_n 2, 1) := by decide +kernel
theorem dX3_lay_6 : decode cX3_lay 6 = .ok (.iastore, 1) := by decide +kernel
theorem dX3_lay_7 : decode cX3_lay 7 = .ok (.aload_n 0, 1) := by decide +kernel
theorem dX3_lay_8 : decode cX3_lay 8 = .ok (.getfield 18, 3) := by decide +kernel
theorem dX3_lay_11 : decode cX3_lay 11 = .ok (.iload_n 1, 1) := by decide +kernel
theorem dX3_lay_12 : decode cX3_lay 12 = .ok (.iload_n 3, 1) := by decide +kernel
theorem dX3_lay_13 : decode cX3_lay 13 = .ok (.iastore, 1) := by decide +kernel
theorem dX3_lay_14 : decode cX3_lay 14 = .ok (.aload_n 0, 1) := by decide +kernel
theorem dX3_lay_15 : decode cX3_lay 15 = .ok (.getfield 11, 3) := by decide +kernel
theorem dX3_lay_18 : decode cX3_lay 18 = .ok (.iload_n 1, 1) := by decide +kernel
theorem dX3_lay_19 : decode cX3_lay 19 = .ok (.aaload, 1) := by decide +kernel
theorem dX3_lay_20 : decode cX3_lay 20 = .ok (.iconst 0, 1) := by decide +kernel
theorem dX3_lay_21 : decode cX3_lay 21 = .ok (.invokestatic 21, 3) := by decide +kernel
theorem dX3_lay_24 : decode cX3_lay 24 = .ok (.return_, 1) := by decide +kernel
theorem dX3_put_0 : decode cX3_put 0 = .ok (.iload_n 3, 1) := by decide +kernel
theorem dX3_put_1 : decode cX3_put 1 = .ok (.istore 4, 2) := by decide +kernel
theorem dX3_put_3 : decode cX3_put 3 = .ok (.aload_n 0, 1) := by decide +kernel
theorem dX3_put_4 : decode cX3_put 4 = .ok (.getfield 14, 3) := by decide +kernel
theorem dX3_put_7 : decode cX3_put 7 = .ok (.iload_n 1, 1) := by decide +kernel
theorem dX3_put_8 : decode cX3_put 8 = .ok (.iaload, 1) := by decide +kernel
theorem dX3_put_9 : decode cX3_put 9 = .ok (.ifCond .ne 10, 3) := by decide +kernel
theorem dX3_put_12 : decode cX3_put 12 = .ok (.iload_n 3, 1) := by decide +kernel
theorem dX3_put_13 : decode cX3_put 13 = .ok (.i2b, 1) := by decide +kernel
theorem dX3_put_14 : decode cX3_put 14 = .ok (.istore 4, 2) := by decide +kernel
theorem dX3_put_16 : decode cX3_put 16 = .ok (.goto 17, 3) := by decide +kernel
theorem dX3_put_19 : decode cX3_put 19 = .ok (.aload_n 0, 1) := by decide +kernel
theorem dX3_put_20 : decode cX3_put 20 = .ok (.getfield 14, 3) := by decide +kernel
theorem dX3_put_23 : decode cX3_put 23 = .ok (.iload_n 1, 1) := by decide +kernel
theorem dX3_put_24 : decode cX3_put 24 = .ok (.iaload, 1) := by decide +kernel
theorem dX3_put_25 : decode cX3_put 25 = .ok (.iconst 1, 1) := by decide +kernel
theorem dX3_put_26 : decode cX3_put 26 = .ok (.if_icmp .ne 7, 3) := by decide +kernel
theorem dX3_put_29 : decode cX3_put 29 = .ok (.iload_n 3, 1) := by decide +kernel
theorem dX3_put_30 : decode cX3_put 30 = .ok (.i2s, 1) := by decide +kernel
theorem dX3_put_31 : decode cX3_put 31 = .ok (.istore 4, 2) := by decide +kernel
theorem dX3_put_33 : decode cX3_put 33 = .ok (.aload_n 0, 1) := by decide +kernel
theorem dX3_put_34 : decode cX3_put 34 = .ok (.getfield 11, 3) := by decide +kernel
theorem dX3_put_37 : decode cX3_put 37 = .ok (.iload_n 1, 1) := by decide +kernel
theorem dX3_put_38 : decode cX3_put 38 = .ok (.aaload, 1) := by decide +kernel
theorem dX3_put_39 : decode cX3_put 39 = .ok (.iload_n 2, 1) := by decide +kernel
theorem dX3_put_40 : decode cX3_put 40 = .ok (.iload 4, 2) := by decide +kernel
theorem dX3_put_42 : decode cX3_put 42 = .ok (.iastore, 1) := by decide +kernel
theorem dX3_put_43 : decode cX3_put 43 = .ok (.iload 4, 2) := by decide +kernel
theorem dX3_put_45 : decode cX3_put 45 = .ok (.ireturn, 1) := by decide +kernel
theorem dX3_carry_0 : decode cX3_carry 0 = .ok (.aload_n 0, 1) := by decide +kernel
theorem dX3_carry_1 : decode cX3_carry 1 = .ok (.getfield 11, 3) := by decide +kernel
theorem dX3_carry_4 : decode cX3_carry 4 = .ok (.iload_n 1, 1) := by decide +kernel
theorem dX3_carry_5 : decode cX3_carry 5 = .ok (.aaload, 1) := by decide +kernel
theorem dX3_carry_6 : decode cX3_carry 6 = .ok (.iload_n 2, 1) := by decide +kernel
theorem dX3_carry_7 : decode cX3_carry 7 = .ok (.aload_n 0, 1) := by decide +kernel
theorem dX3_carry_8 : decode cX3_carry 8 = .ok (.getfield 11, 3) := by decide +kernel
theorem dX3_carry_11 : decode cX3_carry 11 = .ok (.iload_n 3, 1) := by decide +kernel
theorem dX3_carry_12 : decode cX3_carry 12 = .ok (.aaload, 1) := by decide +kernel
theorem dX3_carry_13 : decode cX3_carry 13 = .ok (.iload 4, 2) := by decide +kernel
theorem dX3_carry_15 : decode cX3_carry 15 = .ok (.iload 5, 2) := by decide +kernel
theorem dX3_carry_17 : decode cX3_carry 17 = .ok (.invokestatic 27, 3) := by decide +kernel
theorem dX3_carry_20 : decode cX3_carry 20 = .ok (.return_, 1) := by decide +kernel
theorem dX3_lose_0 : decode cX3_lose 0 = .ok (.aload_n 0, 1) := by decide +kernel
theorem dX3_lose_1 : decode cX3_lose 1 = .ok (.getfield 18, 3) := by decide +kernel
theorem dX3_lose_4 : decode cX3_lose 4 = .ok (.iload_n 1, 1) := by decide +kernel
theorem dX3_lose_5 : decode cX3_lose 5 = .ok (.iaload, 1) := by decide +kernel
theorem dX3_lose_6 : decode cX3_lose 6 = .ok (.istore_n 2, 1) := by decide +kernel
theorem dX3_lose_7 : decode cX3_lose 7 = .ok (.aload_n 0, 1) := by decide +kernel
theorem dX3_lose_8 : decode cX3_lose 8 = .ok (.getfield 18, 3) := by decide +kernel
theorem dX3_lose_11 : decode cX3_lose 11 = .ok (.iload_n 1, 1) := by decide +kernel
theorem dX3_lose_12 : decode cX3_lose 12 = .ok (.iconst (-1), 1) := by decide +kernel
theorem dX3_lose_13 : decode cX3_lose 13 = .ok (.iastore, 1) := by decide +kernel
theorem dX3_lose_14 : decode cX3_lose 14 = .ok (.iload_n 2, 1) := by decide +kernel
theorem dX3_lose_15 : decode cX3_lose 15 = .ok (.ireturn, 1) := by decide +kernel
theorem dX3_present_0 : decode cX3_present 0 = .ok (.iconst 0, 1) := by decide +kernel
theorem dX3_present_1 : decode cX3_present 1 = .ok (.istore_n 1, 1) := by decide +kernel
theorem dX3_present_2 : decode cX3_present 2 = .ok (.iconst 0, 1) := by decide +kernel
theorem dX3_present_3 : decode cX3_present 3 = .ok (.istore_n 2, 1) := by decide +kernel
theorem dX3_present_4 : decode cX3_present 4 = .ok (.iload_n 2, 1) := by decide +kernel
theorem dX3_present_5 : decode cX3_present 5 = .ok (.bipush 8, 2) := by decide +kernel
theorem dX3_present_7 : decode cX3_present 7 = .ok (.if_icmp .ge 20, 3) := by decide +kernel
theorem dX3_present_10 : decode cX3_present 10 = .ok (.aload_n 0, 1) := by decide +kernel
theorem dX3_present_11 : decode cX3_present 11 = .ok (.iload_n 2, 1) := by decide +kernel
theorem dX3_present_12 : decode cX3_present 12 = .ok (.invokevirtual 33, 3) := by decide +kernel
theorem dX3_present_15 : decode cX3_present 15 = .ok (.ifCond .ne 6, 3) := by decide +kernel
theorem dX3_present_18 : decode cX3_present 18 = .ok (.iinc 1 1, 3) := by decide +kernel
theorem dX3_present_21 : decode cX3_present 21 = .ok (.iinc 2 1, 3) := by decide +kernel
theorem dX3_present_24 : decode cX3_present 24 = .ok (.goto (-20), 3) := by decide +kernel
theorem dX3_present_27 : decode cX3_present 27 = .ok (.iload_n 1, 1) := by decide +kernel
theorem dX3_present_28 : decode cX3_present 28 = .ok (.ireturn, 1) := by decide +kernel
theorem dX4_init_0 : decode cX4_init 0 = .ok (.aload_n 0, 1) := by decide +kernel
theorem dX4_init_1 : decode cX4_init 1 = .ok (.invokespecial 1, 3) := by decide +kernel
theorem dX4_init_4 : decode cX4_init 4 = .ok (.aload_n 0, 1) := by decide +kernel
theorem dX4_init_5 : decode cX4_init 5 = .ok (.bipush 110, 2) := by decide +kernel
theorem dX4_init_7 : decode cX4_init 7 = .ok (.newarray .int, 2) := by decide +kernel
theorem dX4_init_9 : decode cX4_init 9 = .ok (.putfield 9, 3) := by decide +kernel
theorem dX4_init_12 : decode cX4_init 12 = .ok (.aload_n 0, 1) := by decide +kernel
theorem dX4_init_13 : decode cX4_init 13 = .ok (.iconst 0, 1) := by decide +kernel
theorem dX4_init_14 : decode cX4_init 14 = .ok (.putfield 13, 3) := by decide +kernel
theorem dX4_init_17 : decode cX4_init 17 = .ok (.aload_n 0, 1) := by decide +kernel
theorem dX4_init_18 : decode cX4_init 18 = .ok (.iconst 0, 1) := by decide +kernel
theorem dX4_init_19 : decode cX4_init 19 = .ok (.putfield 17, 3) := by decide +kernel
theorem dX4_init_22 : decode cX4_init 22 = .ok (.aload_n 0, 1) := by decide +kernel
theorem dX4_init_23 : decode cX4_init 23 = .ok (.iconst 0, 1) := by decide +kernel
theorem dX4_init_24 : decode cX4_init 24 = .ok (.putfield 20, 3) := by decide +kernel
theorem dX4_init_27 : decode cX4_init 27 = .ok (.return_, 1) := by decide +kernel
theorem dX4_isFull_0 : decode cX4_isFull 0 = .ok (.aload_n 0, 1) := by decide +kernel
theorem dX4_isFull_1 : decode cX4_isFull 1 = .ok (.getfield 13, 3) := by decide +kernel
theorem dX4_isFull_4 : decode cX4_isFull 4 = .ok (.bipush 110, 2) := by decide +kernel
theorem dX4_isFull_6 : decode cX4_isFull 6 = .ok (.if_icmp .lt 7, 3) := by decide +kernel
theorem dX4_isFull_9 : decode cX4_isFull 9 = .ok (.iconst 1, 1) := by decide +kernel
theorem dX4_isFull_10 : decode cX4_isFull 10 = .ok (.goto 4, 3) := by decide +kernel
theorem dX4_isFull_13 : decode cX4_isFull 13 = .ok (.iconst 0, 1) := by decide +kernel
theorem dX4_isFull_14 : decode cX4_isFull 14 = .ok (.ireturn, 1) := by decide +kernel
theorem dX4_take_0 : decode cX4_take 0 = .ok (.aload_n 0, 1) := by decide +kernel
theorem dX4_take_1 : decode cX4_take 1 = .ok (.getfield 9, 3) := by decide +kernel
theorem dX4_take_4 : decode cX4_take 4 = .ok (.aload_n 0, 1) := by decide +kernel
theorem dX4_take_5 : decode cX4_take 5 = .ok (.getfield 13, 3) := by decide +kernel
theorem dX4_take_8 : decode cX4_take 8 = .ok (.iload_n 1, 1) := by decide +kernel
theorem dX4_take_9 : decode cX4_take 9 = .ok (.iastore, 1) := by decide +kernel
theorem dX4_take_10 : decode cX4_take 10 = .ok (.aload_n 0, 1) := by decide +kernel
theorem dX4_take_11 : decode cX4_take 11 = .ok (.dup, 1) := by decide +kernel
theorem dX4_take_12 : decode cX4_take 12 = .ok (.getfield 13, 3) := by decide +kernel
theorem dX4_take_15 : decode cX4_take 15 = .ok (.iconst 1, 1) := by decide +kernel
theorem dX4_take_16 : decode cX4_take 16 = .ok (.iadd, 1) := by decide +kernel
theorem dX4_take_17 : decode cX4_take 17 = .ok (.putfield 13, 3) := by decide +kernel
theorem dX4_take_20 : decode cX4_take 20 = .ok (.aload_n 0, 1) := by decide +kernel
theorem dX4_take_21 : decode cX4_take 21 = .ok (.getfield 13, 3) := by decide +kernel
theorem dX4_take_24 : decode cX4_take 24 = .ok (.ireturn, 1) := by decide +kernel
theorem dX4_wipe_0 : decode cX4_wipe 0 = .ok (.aload_n 0, 1) := by decide +kernel
theorem dX4_wipe_1 : decode cX4_wipe 1 = .ok (.iconst 0, 1) := by decide +kernel
theorem dX4_wipe_2 : decode cX4_wipe 2 = .ok (.putfield 13, 3) := by decide +kernel
theorem dX4_wipe_5 : decode cX4_wipe 5 = .ok (.return_, 1) := by decide +kernel
theorem dX4_readInto_0 : decode cX4_readInto 0 = .ok (.aload_n 0, 1) := by decide +kernel
theorem dX4_readInto_1 : decode cX4_readInto 1 = .ok (.iconst 0, 1) := by decide +kernel
theorem dX4_readInto_2 : decode cX4_readInto 2 = .ok (.putfield 17, 3) := by decide +kernel
theorem dX4_readInto_5 : decode cX4_readInto 5 = .ok (.aload_n 1, 1) := by decide +kernel
theorem dX4_readInto_6 : decode cX4_readInto 6 = .ok (.invokevirtual 23, 3) := by decide +kernel
theorem dX4_readInto_9 : decode cX4_readInto 9 = .ok (.aload_n 0, 1) := by decide +kernel
theorem dX4_readInto_10 : decode cX4_readInto 10 = .ok (.aload_n 1, 1) := by decide +kernel
theorem dX4_readInto_11 : decode cX4_readInto 11 = .ok (.invokevirtual 28, 3) := by decide +kernel
theorem dX4_readInto_14 : decode cX4_readInto 14 = .ok (.ifCond .eq 23, 3) := by decide +kernel
theorem dX4_readInto_17 : decode cX4_readInto 17 = .ok (.aload_n 0, 1) := by decide +kernel
theorem dX4_readInto_18 : decode cX4_readInto 18 = .ok (.aload_n 1, 1) := by decide +kernel
theorem dX4_readInto_19 : decode cX4_readInto 19 = .ok (.invokevirtual 32, 3) := by decide +kernel
theorem dX4_readInto_22 : decode cX4_readInto 22 = .ok (.ifCond .eq 15, 3) := by decide +kernel
theorem dX4_readInto_25 : decode cX4_readInto 25 = .ok (.aload_n 0, 1) := by decide +kernel
theorem dX4_readInto_26 : decode cX4_readInto 26 = .ok (.aload_n 1, 1) := by decide +kernel
theorem dX4_readInto_27 : decode cX4_readInto 27 = .ok (.invokevirtual 35, 3) := by decide +kernel
theorem dX4_readInto_30 : decode cX4_readInto 30 = .ok (.ifCond .eq 7, 3) := by decide +kernel
theorem dX4_readInto_33 : decode cX4_readInto 33 = .ok (.iconst 1, 1) := by decide +kernel
theorem dX4_readInto_34 : decode cX4_readInto 34 = .ok (.goto 4, 3) := by decide +kernel
theorem dX4_readInto_37 : decode cX4_readInto 37 = .ok (.iconst 0, 1) := by decide +kernel
theorem dX4_readInto_38 : decode cX4_readInto 38 = .ok (.ireturn, 1) := by decide +kernel
theorem dX4_readLaw_0 : decode cX4_readLaw 0 = .ok (.aload_n 0, 1) := by decide +kernel
theorem dX4_readLaw_1 : decode cX4_readLaw 1 = .ok (.bipush 114, 2) := by decide +kernel
theorem dX4_readLaw_3 : decode cX4_readLaw 3 = .ok (.invokevirtual 38, 3) := by decide +kernel
theorem dX4_readLaw_6 : decode cX4_readLaw 6 = .ok (.ifCond .ne 5, 3) := by decide +kernel
theorem dX4_readLaw_9 : decode cX4_readLaw 9 = .ok (.iconst 0, 1) := by decide +kernel
theorem dX4_readLaw_10 : decode cX4_readLaw 10 = .ok (.ireturn, 1) := by decide +kernel
theorem dX4_readLaw_11 : decode cX4_readLaw 11 = .ok (.aload_n 1, 1) := by decide +kernel
theorem dX4_readLaw_12 : decode cX4_readLaw 12 = .ok (.aload_n 0, 1) := by decide +kernel
theorem dX4_readLaw_13 : decode cX4_readLaw 13 = .ok (.iconst 0, 1) := by decide +kernel
theorem dX4_readLaw_14 : decode cX4_readLaw 14 = .ok (.bipush 15, 2) := by decide +kernel
theorem dX4_readLaw_16 : decode cX4_readLaw 16 = .ok (.invokevirtual 42, 3) := by decide +kernel
theorem dX4_readLaw_19 : decode cX4_readLaw 19 = .ok (.putfield 46, 3) := by decide +kernel
theorem dX4_readLaw_22 : decode cX4_readLaw 22 = .ok (.aload_n 1, 1) := by decide +kernel
theorem dX4_readLaw_23 : decode cX4_readLaw 23 = .ok (.getfield 46, 3) := by decide +kernel
theorem dX4_readLaw_26 : decode cX4_readLaw 26 = .ok (.iconst (-1), 1) := by decide +kernel
theorem dX4_readLaw_27 : decode cX4_readLaw 27 = .ok (.if_icmp .eq 12, 3) := by decide +kernel
theorem dX4_readLaw_30 : decode cX4_readLaw 30 = .ok (.aload_n 0, 1) := by decide +kernel
theorem dX4_readLaw_31 : decode cX4_readLaw 31 = .ok (.bipush 44, 2) := by decide +kernel
theorem dX4_readLaw_33 : decode cX4_readLaw 33 = .ok (.invokevirtual 38, 3) := by decide +kernel
theorem dX4_readLaw_36 : decode cX4_readLaw 36 = .ok (.ifCond .ne 5, 3) := by decide +kernel
theorem dX4_readLaw_39 : decode cX4_readLaw 39 = .ok (.iconst 0, 1) := by decide +kernel
theorem dX4_readLaw_40 : decode cX4_readLaw 40 = .ok (.ireturn, 1) := by decide +kernel
theorem dX4_readLaw_41 : decode cX4_readLaw 41 = .ok (.aload_n 1, 1) := by decide +kernel
theorem dX4_readLaw_42 : decode cX4_readLaw 42 = .ok (.aload_n 0, 1) := by decide +kernel
theorem dX4_readLaw_43 : decode cX4_readLaw 43 = .ok (.iconst 0, 1) := by decide +kernel
theorem dX4_readLaw_44 : decode cX4_readLaw 44 = .ok (.bipush 10, 2) := by decide +kernel
theorem dX4_readLaw_46 : decode cX4_readLaw 46 = .ok (.invokevirtual 42, 3) := by decide +kernel
theorem dX4_readLaw_49 : decode cX4_readLaw 49 = .ok (.putfield 49, 3) := by decide +kernel
theorem dX4_readLaw_52 : decode cX4_readLaw 52 = .ok (.aload_n 1, 1) := by decide +kernel
theorem dX4_readLaw_53 : decode cX4_readLaw 53 = .ok (.getfield 49, 3) := by decide +kernel
theorem dX4_readLaw_56 : decode cX4_readLaw 56 = .ok (.iconst (-1), 1) := by decide +kernel
theorem dX4_readLaw_57 : decode cX4_readLaw 57 = .ok (.if_icmp .eq 16, 3) := by decide +kernel
theorem dX4_readLaw_60 : decode cX4_readLaw 60 = .ok (.aload_n 0, 1) := by decide +kernel
theorem dX4_readLaw_61 : decode cX4_readLaw 61 = .ok (.bipush 59, 2) := by decide +kernel
theorem dX4_readLaw_63 : decode cX4_readLaw 63 = .ok (.invokevirtual 38, 3) := by decide +kernel
theorem dX4_readLaw_66 : decode cX4_readLaw 66 = .ok (.ifCond .eq 7, 3) := by decide +kernel
theorem dX4_readLaw_69 : decode cX4_readLaw 69 = .ok (.iconst 1, 1) := by decide +kernel
theorem dX4_readLaw_70 : decode cX4_readLaw 70 = .ok (.goto 4, 3) := by decide +kernel
theorem dX4_readLaw_73 : decode cX4_readLaw 73 = .ok (.iconst 0, 1) := by decide +kernel
theorem dX4_readLaw_74 : decode cX4_readLaw 74 = .ok (.ireturn, 1) := by decide +kernel
theorem dX4_readCells_0 : decode cX4_readCells 0 = .ok (.iconst 0, 1) := by decide +kernel
theorem dX4_readCells_1 : decode cX4_readCells 1 = .ok (.istore_n 2, 1) := by decide +kernel
theorem dX4_readCells_2 : decode cX4_readCells 2 = .ok (.iload_n 2, 1) := by decide +kernel
theorem dX4_readCells_3 : decode cX4_readCells 3 = .ok (.bipush 12, 2) := by decide +kernel
theorem dX4_readCells_5 : decode cX4_readCells 5 = .ok (.if_icmp .ge 33, 3) := by decide +kernel
theorem dX4_readCells_8 : decode cX4_readCells 8 = .ok (.iload_n 2, 1) := by decide +kernel
theorem dX4_readCells_9 : decode cX4_readCells 9 = .ok (.iconst 4, 1) := by decide +kernel
theorem dX4_readCells_10 : decode cX4_readCells 10 = .ok (.if_icmp .lt 12, 3) := by decide +kernel
theorem dX4_readCells_13 : decode cX4_readCells 13 = .ok (.aload_n 0, 1) := by decide +kernel
theorem dX4_readCells_14 : decode cX4_readCells 14 = .ok (.bipush 99, 2) := by decide +kernel
theorem dX4_readCells_16 : decode cX4_readCells 16 = .ok (.invokevirtual 52, 3) := by decide +kernel
theorem dX4_readCells_19 : decode cX4_readCells 19 = .ok (.ifCond .eq 19, 3) := by decide +kernel
theorem dX4_readCells_22 : decode cX4_readCells 22 = .ok (.aload_n 0, 1) := by decide +kernel
theorem dX4_readCells_23 : decode cX4_readCells 23 = .ok (.aload_n 1, 1) := by decide +kernel
theorem dX4_readCells_24 : decode cX4_readCells 24 = .ok (.invokevirtual 55, 3) := by decide +kernel
theorem dX4_readCells_27 : decode cX4_readCells 27 = .ok (.ifCond .ne 5, 3) := by decide +kernel
theorem dX4_readCells_30 : decode cX4_readCells 30 = .ok (.iconst 0, 1) := by decide +kernel
theorem dX4_readCells_31 : decode cX4_readCells 31 = .ok (.ireturn, 1) := by decide +kernel
theorem dX4_readCells_32 : decode cX4_readCells 32 = .ok (.iinc 2 1, 3) := by decide +kernel
theorem dX4_readCells_35 : decode cX4_readCells 35 = .ok (.goto (-33), 3) := by decide +kernel
theorem dX4_readCells_38 : decode cX4_readCells 38 = .ok (.aload_n 0, 1) := by decide +kernel
theorem dX4_readCells_39 : decode cX4_readCells 39 = .ok (.bipush 99, 2) := by decide +kernel
theorem dX4_readCells_41 : decode cX4_readCells 41 = .ok (.invokevirtual 52, 3) := by decide +kernel
theorem dX4_readCells_44 : decode cX4_readCells 44 = .ok (.ifCond .eq 11, 3) := by decide +kernel
theorem dX4_readCells_47 : decode cX4_readCells 47 = .ok (.aload_n 0, 1) := by decide +kernel
theorem dX4_readCells_48 : decode cX4_readCells 48 = .ok (.iconst 3, 1) := by decide +kernel
theorem dX4_readCells_49 : decode cX4_readCells 49 = .ok (.invokevirtual 58, 3) := by decide +kernel
theorem dX4_readCells_52 : decode cX4_readCells 52 = .ok (.ifCond .eq 7, 3) := by decide +kernel
theorem dX4_readCells_55 : decode cX4_readCells 55 = .ok (.iconst 1, 1) := by decide +kernel
theorem dX4_readCells_56 : decode cX4_readCells 56 = .ok (.goto 4, 3) := by decide +kernel
theorem dX4_readCells_59 : decode cX4_readCells 59 = .ok (.iconst 0, 1) := by decide +kernel
theorem dX4_readCells_60 : decode cX4_readCells 60 = .ok (.ireturn, 1) := by decide +kernel
theorem dX4_readCell_0 : decode cX4_readCell 0 = .ok (.aload_n 0, 1) := by decide +kernel
theorem dX4_readCell_1 : decode cX4_readCell 1 = .ok (.bipush 99, 2) := by decide +kernel
theorem dX4_readCell_3 : decode cX4_readCell 3 = .ok (.invokevirtual 38, 3) := by decide +kernel
theorem dX4_readCell_6 : decode cX4_readCell 6 = .ok (.ifCond .ne 5, 3) := by decide +kernel
theorem dX4_readCell_9 : decode cX4_readCell 9 = .ok (.iconst 0, 1) := by decide +kernel
theorem dX4_readCell_10 : decode cX4_readCell 10 = .ok (.ireturn, 1) := by decide +kernel
theorem dX4_readCell_11 : decode cX4_readCell 11 = .ok (.aload_n 0, 1) := by decide +kernel
theorem dX4_readCell_12 : decode cX4_readCell 12 = .ok (.iconst 0, 1) := by decide +kernel
theorem dX4_readCell_13 : decode cX4_readCell 13 = .ok (.iconst 3, 1) := by decide +kernel
theorem dX4_readCell_14 : decode cX4_readCell 14 = .ok (.invokevirtual 42, 3) := by decide +kernel
theorem dX4_readCell_17 : decode cX4_readCell 17 = .ok (.istore_n 2, 1) := by decide +kernel
theorem dX4_readCell_18 : decode cX4_readCell 18 = .ok (.iload_n 2, 1) := by decide +kernel
theorem dX4_readCell_19 : decode cX4_readCell 19 = .ok (.iconst (-1), 1) := by decide +kernel
theorem dX4_readCell_20 : decode cX4_readCell 20 = .ok (.if_icmp .eq 12, 3) := by decide +kernel
theorem dX4_readCell_23 : decode cX4_readCell 23 = .ok (.aload_n 0, 1) := by decide +kernel
theorem dX4_readCell_24 : decode cX4_readCell 24 = .ok (.bipush 59, 2) := by decide +kernel
theorem dX4_readCell_26 : decode cX4_readCell 26 = .ok (.invokevirtual 38, 3) := by decide +kernel
theorem dX4_readCell_29 : decode cX4_readCell 29 = .ok (.ifCond .ne 5, 3) := by decide +kernel
theorem dX4_readCell_32 : decode cX4_readCell 32 = .ok (.iconst 0, 1) := by decide +kernel
theorem dX4_readCell_33 : decode cX4_readCell 33 = .ok (.ireturn, 1) := by decide +kernel
theorem dX4_readCell_34 : decode cX4_readCell 34 = .ok (.aload_n 1, 1) := by decide +kernel
theorem dX4_readCell_35 : decode cX4_readCell 35 = .ok (.getfield 62, 3) := by decide +kernel
theorem dX4_readCell_38 : decode cX4_readCell 38 = .ok (.aload_n 1, 1) := by decide +kernel
theorem dX4_readCell_39 : decode cX4_readCell 39 = .ok (.getfield 65, 3) := by decide +kernel
theorem dX4_readCell_42 : decode cX4_readCell 42 = .ok (.iload_n 2, 1) := by decide +kernel
theorem dX4_readCell_43 : decode cX4_readCell 43 = .ok (.iastore, 1) := by decide +kernel
theorem dX4_readCell_44 : decode cX4_readCell 44 = .ok (.aload_n 1, 1) := by decide +kernel
theorem dX4_readCell_45 : decode cX4_readCell 45 = .ok (.dup, 1) := by decide +kernel
theorem dX4_readCell_46 : decode cX4_readCell 46 = .ok (.getfield 65, 3) := by decide +kernel
theorem dX4_readCell_49 : decode cX4_readCell 49 = .ok (.iconst 1, 1) := by decide +kernel
theorem dX4_readCell_50 : decode cX4_readCell 50 = .ok (.iadd, 1) := by decide +kernel
theorem dX4_readCell_51 : decode cX4_readCell 51 = .ok (.putfield 65, 3) := by decide +kernel
theorem dX4_readCell_54 : decode cX4_readCell 54 = .ok (.iconst 1, 1) := by decide +kernel
theorem dX4_readCell_55 : decode cX4_readCell 55 = .ok (.ireturn, 1) := by decide +kernel
theorem dX4_readWords_0 : decode cX4_readWords 0 = .ok (.iconst 0, 1) := by decide +kernel
theorem dX4_readWords_1 : decode cX4_readWords 1 = .ok (.istore_n 2, 1) := by decide +kernel
theorem dX4_readWords_2 : decode cX4_readWords 2 = .ok (.iload_n 2, 1) := by decide +kernel
theorem dX4_readWords_3 : decode cX4_readWords 3 = .ok (.bipush 7, 2) := by decide +kernel
theorem dX4_readWords_5 : decode cX4_readWords 5 = .ok (.if_icmp .ge 30, 3) := by decide +kernel
theorem dX4_readWords_8 : decode cX4_readWords 8 = .ok (.aload_n 0, 1) := by decide +kernel
theorem dX4_readWords_9 : decode cX4_readWords 9 = .ok (.getfield 17, 3) := by decide +kernel
theorem dX4_readWords_12 : decode cX4_readWords 12 = .ok (.aload_n 0, 1) := by decide +kernel
theorem dX4_readWords_13 : decode cX4_readWords 13 = .ok (.getfield 13, 3) := by decide +kernel
theorem dX4_readWords_16 : decode cX4_readWords 16 = .ok (.if_icmp .ge 19, 3) := by decide +kernel
theorem dX4_readWords_19 : decode cX4_readWords 19 = .ok (.aload_n 0, 1) := by decide +kernel
theorem dX4_readWords_20 : decode cX4_readWords 20 = .ok (.aload_n 1, 1) := by decide +kernel
theorem dX4_readWords_21 : decode cX4_readWords 21 = .ok (.invokevirtual 68, 3) := by decide +kernel
theorem dX4_readWords_24 : decode cX4_readWords 24 = .ok (.ifCond .ne 5, 3) := by decide +kernel
theorem dX4_readWords_27 : decode cX4_readWords 27 = .ok (.iconst 0, 1) := by decide +kernel
theorem dX4_readWords_28 : decode cX4_readWords 28 = .ok (.ireturn, 1) := by decide +kernel
theorem dX4_readWords_29 : decode cX4_readWords 29 = .ok (.iinc 2 1, 3) := by decide +kernel
theorem dX4_readWords_32 : decode cX4_readWords 32 = .ok (.goto (-30), 3) := by decide +kernel
theorem dX4_readWords_35 : decode cX4_readWords 35 = .ok (.aload_n 0, 1) := by decide +kernel
theorem dX4_readWords_36 : decode cX4_readWords 36 = .ok (.getfield 17, 3) := by decide +kernel
theorem dX4_readWords_39 : decode cX4_readWords 39 = .ok (.aload_n 0, 1) := by decide +kernel
theorem dX4_readWords_40 : decode cX4_readWords 40 = .ok (.getfield 13, 3) := by decide +kernel
theorem dX4_readWords_43 : decode cX4_readWords 43 = .ok (.if_icmp .lt 5, 3) := by decide +kernel
theorem dX4_readWords_46 : decode cX4_readWords 46 = .ok (.iconst 1, 1) := by decide +kernel
theorem dX4_readWords_47 : decode cX4_readWords 47 = .ok (.ireturn, 1) := by decide +kernel
theorem dX4_readWords_48 : decode cX4_readWords 48 = .ok (.aload_n 0, 1) := by decide +kernel
theorem dX4_readWords_49 : decode cX4_readWords 49 = .ok (.aload_n 0, 1) := by decide +kernel
theorem dX4_readWords_50 : decode cX4_readWords 50 = .ok (.getfield 9, 3) := by decide +kernel
theorem dX4_readWords_53 : decode cX4_readWords 53 = .ok (.aload_n 0, 1) := by decide +kernel
theorem dX4_readWords_54 : decode cX4_readWords 54 = .ok (.getfield 17, 3) := by decide +kernel
theorem dX4_readWords_57 : decode cX4_readWords 57 = .ok (.iaload, 1) := by decide +kernel
theorem dX4_readWords_58 : decode cX4_readWords 58 = .ok (.invokestatic 71, 3) := by decide +kernel
theorem dX4_readWords_61 : decode cX4_readWords 61 = .ok (.iconst (-1), 1) := by decide +kernel
theorem dX4_readWords_62 : decode cX4_readWords 62 = .ok (.if_icmp .ne 7, 3) := by decide +kernel
theorem dX4_readWords_65 : decode cX4_readWords 65 = .ok (.iconst 1, 1) := by decide +kernel
theorem dX4_readWords_66 : decode cX4_readWords 66 = .ok (.goto 4, 3) := by decide +kernel
theorem dX4_readWords_69 : decode cX4_readWords 69 = .ok (.iconst 3, 1) := by decide +kernel
theorem dX4_readWords_70 : decode cX4_readWords 70 = .ok (.invokevirtual 58, 3) := by decide +kernel
theorem dX4_readWords_73 : decode cX4_readWords 73 = .ok (.ireturn, 1) := by decide +kernel
theorem dX4_readWord_0 : decode cX4_readWord 0 = .ok (.aload_n 0, 1) := by decide +kernel
theorem dX4_readWord_1 : decode cX4_readWord 1 = .ok (.getfield 9, 3) := by decide +kernel
theorem dX4_readWord_4 : decode cX4_readWord 4 = .ok (.aload_n 0, 1) := by decide +kernel
theorem dX4_readWord_5 : decode cX4_readWord 5 = .ok (.getfield 17, 3) := by decide +kernel
theorem dX4_readWord_8 : decode cX4_readWord 8 = .ok (.iaload, 1) := by decide +kernel
theorem dX4_readWord_9 : decode cX4_readWord 9 = .ok (.invokestatic 71, 3) := by decide +kernel
theorem dX4_readWord_12 : decode cX4_readWord 12 = .ok (.istore_n 2, 1) := by decide +kernel
theorem dX4_readWord_13 : decode cX4_readWord 13 = .ok (.iload_n 2, 1) := by decide +kernel
theorem dX4_readWord_14 : decode cX4_readWord 14 = .ok (.iconst (-1), 1) := by decide +kernel
theorem dX4_readWord_15 : decode cX4_readWord 15 = .ok (.if_icmp .ne 9, 3) := by decide +kernel
theorem dX4_readWord_18 : decode cX4_readWord 18 = .ok (.aload_n 0, 1) := by decide +kernel
theorem dX4_readWord_19 : decode cX4_readWord 19 = .ok (.iconst 1, 1) := by decide +kernel
theorem dX4_readWord_20 : decode cX4_readWord 20 = .ok (.invokevirtual 58, 3) := by decide +kernel
theorem dX4_readWord_23 : decode cX4_readWord 23 = .ok (.ireturn, 1) := by decide +kernel
theorem dX4_readWord_24 : decode cX4_readWord 24 = .ok (.aload_n 0, 1) := by decide +kernel
theorem dX4_readWord_25 : decode cX4_readWord 25 = .ok (.dup, 1) := by decide +kernel
theorem dX4_readWord_26 : decode cX4_readWord 26 = .ok (.getfield 17, 3) := by decide +kernel
theorem dX4_readWord_29 : decode cX4_readWord 29 = .ok (.iconst 1, 1) := by decide +kernel
theorem dX4_readWord_30 : decode cX4_readWord 30 = .ok (.iadd, 1) := by decide +kernel
theorem dX4_readWord_31 : decode cX4_readWord 31 = .ok (.putfield 17, 3) := by decide +kernel
theorem dX4_readWord_34 : decode cX4_readWord 34 = .ok (.aload_n 0, 1) := by decide +kernel
theorem dX4_readWord_35 : decode cX4_readWord 35 = .ok (.iconst 1, 1) := by decide +kernel
theorem dX4_readWord_36 : decode cX4_readWord 36 = .ok (.bipush 60, 2) := by decide +kernel
theorem dX4_readWord_38 : decode cX4_readWord 38 = .ok (.invokevirtual 42, 3) := by decide +kernel
theorem dX4_readWord_41 : decode cX4_readWord 41 = .ok (.istore_n 3, 1) := by decide +kernel
theorem dX4_readWord_42 : decode cX4_readWord 42 = .ok (.iload_n 3, 1) := by decide +kernel
theorem dX4_readWord_43 : decode cX4_readWord 43 = .ok (.iconst (-1), 1) := by decide +kernel
theorem dX4_readWord_44 : decode cX4_readWord 44 = .ok (.if_icmp .eq 12, 3) := by decide +kernel
theorem dX4_readWord_47 : decode cX4_readWord 47 = .ok (.aload_n 0, 1) := by decide +kernel
theorem dX4_readWord_48 : decode cX4_readWord 48 = .ok (.bipush 44, 2) := by decide +kernel
theorem dX4_readWord_50 : decode cX4_readWord 50 = .ok (.invokevirtual 38, 3) := by decide +kernel
theorem dX4_readWord_53 : decode cX4_readWord 53 = .ok (.ifCond .ne 5, 3) := by decide +kernel
theorem dX4_readWord_56 : decode cX4_readWord 56 = .ok (.iconst 0, 1) := by decide +kernel
theorem dX4_readWord_57 : decode cX4_readWord 57 = .ok (.ireturn, 1) := by decide +kernel
theorem dX4_readWord_58 : decode cX4_readWord 58 = .ok (.aload_n 0, 1) := by decide +kernel
theorem dX4_readWord_59 : decode cX4_readWord 59 = .ok (.iconst 0, 1) := by decide +kernel
theorem dX4_readWord_60 : decode cX4_readWord 60 = .ok (.aload_n 1, 1) := by decide +kernel
theorem dX4_readWord_61 : decode cX4_readWord 61 = .ok (.getfield 65, 3) := by decide +kernel
theorem dX4_readWord_64 : decode cX4_readWord 64 = .ok (.iconst 1, 1) := by decide +kernel
theorem dX4_readWord_65 : decode cX4_readWord 65 = .ok (.isub, 1) := by decide +kernel
theorem dX4_readWord_66 : decode cX4_readWord 66 = .ok (.invokevirtual 42, 3) := by decide +kernel
theorem dX4_readWord_69 : decode cX4_readWord 69 = .ok (.istore 4, 2) := by decide +kernel
theorem dX4_readWord_71 : decode cX4_readWord 71 = .ok (.iload 4, 2) := by decide +kernel
theorem dX4_readWord_73 : decode cX4_readWord 73 = .ok (.iconst (-1), 1) := by decide +kernel
theorem dX4_readWord_74 : decode cX4_readWord 74 = .ok (.if_icmp .eq 12, 3) := by decide +kernel
theorem dX4_readWord_77 : decode cX4_readWord 77 = .ok (.aload_n 0, 1) := by decide +kernel
theorem dX4_readWord_78 : decode cX4_readWord 78 = .ok (.bipush 59, 2) := by decide +kernel
theorem dX4_readWord_80 : decode cX4_readWord 80 = .ok (.invokevirtual 38, 3) := by decide +kernel
theorem dX4_readWord_83 : decode cX4_readWord 83 = .ok (.ifCond .ne 5, 3) := by decide +kernel
theorem dX4_readWord_86 : decode cX4_readWord 86 = .ok (.iconst 0, 1) := by decide +kernel
theorem dX4_readWord_87 : decode cX4_readWord 87 = .ok (.ireturn, 1) := by decide +kernel
theorem dX4_readWord_88 : decode cX4_readWord 88 = .ok (.aload_n 1, 1) := by decide +kernel
theorem dX4_readWord_89 : decode cX4_readWord 89 = .ok (.getfield 77, 3) := by decide +kernel
theorem dX4_readWord_92 : decode cX4_readWord 92 = .ok (.aload_n 1, 1) := by decide +kernel
theorem dX4_readWord_93 : decode cX4_readWord 93 = .ok (.getfield 80, 3) := by decide +kernel
theorem dX4_readWord_96 : decode cX4_readWord 96 = .ok (.iload_n 2, 1) := by decide +kernel
theorem dX4_readWord_97 : decode cX4_readWord 97 = .ok (.iastore, 1) := by decide +kernel
theorem dX4_readWord_98 : decode cX4_readWord 98 = .ok (.aload_n 1, 1) := by decide +kernel
theorem dX4_readWord_99 : decode cX4_readWord 99 = .ok (.getfield 83, 3) := by decide +kernel
theorem dX4_readWord_102 : decode cX4_readWord 102 = .ok (.aload_n 1, 1) := by decide +kernel
theorem dX4_readWord_103 : decode cX4_readWord 103 = .ok (.getfield 80, 3) := by decide +kernel
theorem dX4_readWord_106 : decode cX4_readWord 106 = .ok (.iload_n 3, 1) := by decide +kernel
theorem dX4_readWord_107 : decode cX4_readWord 107 = .ok (.iload 4, 2) := by decide +kernel
theorem dX4_readWord_109 : decode cX4_readWord 109 = .ok (.invokestatic 86, 3) := by decide +kernel
theorem dX4_readWord_112 : decode cX4_readWord 112 = .ok (.iastore, 1) := by decide +kernel
theorem dX4_readWord_113 : decode cX4_readWord 113 = .ok (.aload_n 1, 1) := by decide +kernel
theorem dX4_readWord_114 : decode cX4_readWord 114 = .ok (.dup, 1) := by decide +kernel
theorem dX4_readWord_115 : decode cX4_readWord 115 = .ok (.getfield 80, 3) := by decide +kernel
theorem dX4_readWord_118 : decode cX4_readWord 118 = .ok (.iconst 1, 1) := by decide +kernel
theorem dX4_readWord_119 : decode cX4_readWord 119 = .ok (.iadd, 1) := by decide +kernel
theorem dX4_readWord_120 : decode cX4_readWord 120 = .ok (.putfield 80, 3) := by decide +kernel
theorem dX4_readWord_123 : decode cX4_readWord 123 = .ok (.iconst 1, 1) := by decide +kernel
theorem dX4_readWord_124 : decode cX4_readWord 124 = .ok (.ireturn, 1) := by decide +kernel
theorem dX4_isAt_0 : decode cX4_isAt 0 = .ok (.aload_n 0, 1) := by decide +kernel
theorem dX4_isAt_1 : decode cX4_isAt 1 = .ok (.getfield 17, 3) := by decide +kernel
theorem dX4_isAt_4 : decode cX4_isAt 4 = .ok (.aload_n 0, 1) := by decide +kernel
theorem dX4_isAt_5 : decode cX4_isAt 5 = .ok (.getfield 13, 3) := by decide +kernel
theorem dX4_isAt_8 : decode cX4_isAt 8 = .ok (.if_icmp .ge 20, 3) := by decide +kernel
theorem dX4_isAt_11 : decode cX4_isAt 11 = .ok (.aload_n 0, 1) := by decide +kernel
theorem dX4_isAt_12 : decode cX4_isAt 12 = .ok (.getfield 9, 3) := by decide +kernel
theorem dX4_isAt_15 : decode cX4_isAt 15 = .ok (.aload_n 0, 1) := by decide +kernel
theorem dX4_isAt_16 : decode cX4_isAt 16 = .ok (.getfield 17, 3) := by decide +kernel
theorem dX4_isAt_19 : decode cX4_isAt 19 = .ok (.iaload, 1) := by decide +kernel
theorem dX4_isAt_20 : decode cX4_isAt 20 = .ok (.iload_n 1, 1) := by decide +kernel
theorem dX4_isAt_21 : decode cX4_isAt 21 = .ok (.if_icmp .ne 7, 3) := by decide +kernel
theorem dX4_isAt_24 : decode cX4_isAt 24 = .ok (.iconst 1, 1) := by decide +kernel
theorem dX4_isAt_25 : decode cX4_isAt 25 = .ok (.goto 4, 3) := by decide +kernel
theorem dX4_isAt_28 : decode cX4_isAt 28 = .ok (.iconst 0, 1) := by decide +kernel
theorem dX4_isAt_29 : decode cX4_isAt 29 = .ok (.ireturn, 1) := by decide +kernel
theorem dX4_passes_0 : decode cX4_passes 0 = .ok (.aload_n 0, 1) := by decide +kernel
theorem dX4_passes_1 : decode cX4_passes 1 = .ok (.iload_n 1, 1) := by decide +kernel
theorem dX4_passes_2 : decode cX4_passes 2 = .ok (.invokevirtual 52, 3) := by decide +kernel
theorem dX4_passes_5 : decode cX4_passes 5 = .ok (.ifCond .ne 9, 3) := by decide +kernel
theorem dX4_passes_8 : decode cX4_passes 8 = .ok (.aload_n 0, 1) := by decide +kernel
theorem dX4_passes_9 : decode cX4_passes 9 = .ok (.iconst 1, 1) := by decide +kernel
theorem dX4_passes_10 : decode cX4_passes 10 = .ok (.invokevirtual 58, 3) := by decide +kernel
theorem dX4_passes_13 : decode cX4_passes 13 = .ok (.ireturn, 1) := by decide +kernel
theorem dX4_passes_14 : decode cX4_passes 14 = .ok (.aload_n 0, 1) := by decide +kernel
theorem dX4_passes_15 : decode cX4_passes 15 = .ok (.dup, 1) := by decide +kernel
theorem dX4_passes_16 : decode cX4_passes 16 = .ok (.getfield 17, 3) := by decide +kernel
theorem dX4_passes_19 : decode cX4_passes 19 = .ok (.iconst 1, 1) := by decide +kernel
theorem dX4_passes_20 : decode cX4_passes 20 = .ok (.iadd, 1) := by decide +kernel
theorem dX4_passes_21 : decode cX4_passes 21 = .ok (.putfield 17, 3) := by decide +kernel
theorem dX4_passes_24 : decode cX4_passes 24 = .ok (.iconst 1, 1) := by decide +kernel
theorem dX4_passes_25 : decode cX4_passes 25 = .ok (.ireturn, 1) := by decide +kernel
theorem dX4_faulty_0 : decode cX4_faulty 0 = .ok (.aload_n 0, 1) := by decide +kernel
theorem dX4_faulty_1 : decode cX4_faulty 1 = .ok (.iload_n 1, 1) := by decide +kernel
theorem dX4_faulty_2 : decode cX4_faulty 2 = .ok (.putfield 20, 3) := by decide +kernel
theorem dX4_faulty_5 : decode cX4_faulty 5 = .ok (.iconst 0, 1) := by decide +kernel
theorem dX4_faulty_6 : decode cX4_faulty 6 = .ok (.ireturn, 1) := by decide +kernel
theorem dX4_readNumber_0 : decode cX4_readNumber 0 = .ok (.aload_n 0, 1) := by decide +kernel
theorem dX4_readNumber_1 : decode cX4_readNumber 1 = .ok (.aload_n 0, 1) := by decide +kernel
theorem dX4_readNumber_2 : decode cX4_readNumber 2 = .ok (.getfield 17, 3) := by decide +kernel
theorem dX4_readNumber_5 : decode cX4_readNumber 5 = .ok (.invokevirtual 89, 3) := by decide +kernel
theorem dX4_readNumber_8 : decode cX4_readNumber 8 = .ok (.istore_n 3, 1) := by decide +kernel
theorem dX4_readNumber_9 : decode cX4_readNumber 9 = .ok (.iload_n 3, 1) := by decide +kernel
theorem dX4_readNumber_10 : decode cX4_readNumber 10 = .ok (.iconst 1, 1) := by decide +kernel
theorem dX4_readNumber_11 : decode cX4_readNumber 11 = .ok (.if_icmp .lt 8, 3) := by decide +kernel
theorem dX4_readNumber_14 : decode cX4_readNumber 14 = .ok (.iload_n 3, 1) := by decide +kernel
theorem dX4_readNumber_15 : decode cX4_readNumber 15 = .ok (.iconst 2, 1) := by decide +kernel
theorem dX4_readNumber_16 : decode cX4_readNumber 16 = .ok (.if_icmp .le 11, 3) := by decide +kernel
theorem dX4_readNumber_19 : decode cX4_readNumber 19 = .ok (.aload_n 0, 1) := by decide +kernel
theorem dX4_readNumber_20 : decode cX4_readNumber 20 = .ok (.iconst 1, 1) := by decide +kernel
theorem dX4_readNumber_21 : decode cX4_readNumber 21 = .ok (.invokevirtual 58, 3) := by decide +kernel
theorem dX4_readNumber_24 : decode cX4_readNumber 24 = .ok (.pop, 1) := by decide +kernel
theorem dX4_readNumber_25 : decode cX4_readNumber 25 = .ok (.iconst (-1), 1) := by decide +kernel
theorem dX4_readNumber_26 : decode cX4_readNumber 26 = .ok (.ireturn, 1) := by decide +kernel
theorem dX4_readNumber_27 : decode cX4_readNumber 27 = .ok (.iconst 0, 1) := by decide +kernel
theorem dX4_readNumber_28 : decode cX4_readNumber 28 = .ok (.istore 4, 2) := by decide +kernel
theorem dX4_readNumber_30 : decode cX4_readNumber 30 = .ok (.iconst 0, 1) := by decide +kernel
theorem dX4_readNumber_31 : decode cX4_readNumber 31 = .ok (.istore 5, 2) := by decide +kernel
theorem dX4_readNumber_33 : decode cX4_readNumber 33 = .ok (.iload 5, 2) := by decide +kernel
theorem dX4_readNumber_35 : decode cX4_readNumber 35 = .ok (.iload_n 3, 1) := by decide +kernel
theorem dX4_readNumber_36 : decode cX4_readNumber 36 = .ok (.if_icmp .ge 32, 3) := by decide +kernel
theorem dX4_readNumber_39 : decode cX4_readNumber 39 = .ok (.iload 4, 2) := by decide +kernel
theorem dX4_readNumber_41 : decode cX4_readNumber 41 = .ok (.bipush 10, 2) := by decide +kernel
theorem dX4_readNumber_43 : decode cX4_readNumber 43 = .ok (.imul, 1) := by decide +kernel
theorem dX4_readNumber_44 : decode cX4_readNumber 44 = .ok (.aload_n 0, 1) := by decide +kernel
theorem dX4_readNumber_45 : decode cX4_readNumber 45 = .ok (.getfield 9, 3) := by decide +kernel
theorem dX4_readNumber_48 : decode cX4_readNumber 48 = .ok (.aload_n 0, 1) := by decide +kernel
theorem dX4_readNumber_49 : decode cX4_readNumber 49 = .ok (.getfield 17, 3) := by decide +kernel
theorem dX4_readNumber_52 : decode cX4_readNumber 52 = .ok (.iload 5, 2) := by decide +kernel
theorem dX4_readNumber_54 : decode cX4_readNumber 54 = .ok (.iadd, 1) := by decide +kernel
theorem dX4_readNumber_55 : decode cX4_readNumber 55 = .ok (.iaload, 1) := by decide +kernel
theorem dX4_readNumber_56 : decode cX4_readNumber 56 = .ok (.iadd, 1) := by decide +kernel
theorem dX4_readNumber_57 : decode cX4_readNumber 57 = .ok (.bipush 48, 2) := by decide +kernel
theorem dX4_readNumber_59 : decode cX4_readNumber 59 = .ok (.isub, 1) := by decide +kernel
theorem dX4_readNumber_60 : decode cX4_readNumber 60 = .ok (.istore 4, 2) := by decide +kernel
theorem dX4_readNumber_62 : decode cX4_readNumber 62 = .ok (.iinc 5 1, 3) := by decide +kernel
theorem dX4_readNumber_65 : decode cX4_readNumber 65 = .ok (.goto (-32), 3) := by decide +kernel
theorem dX4_readNumber_68 : decode cX4_readNumber 68 = .ok (.iload 4, 2) := by decide +kernel
theorem dX4_readNumber_70 : decode cX4_readNumber 70 = .ok (.iload_n 1, 1) := by decide +kernel
theorem dX4_readNumber_71 : decode cX4_readNumber 71 = .ok (.if_icmp .lt 9, 3) := by decide +kernel
theorem dX4_readNumber_74 : decode cX4_readNumber 74 = .ok (.iload 4, 2) := by decide +kernel
theorem dX4_readNumber_76 : decode cX4_readNumber 76 = .ok (.iload_n 2, 1) := by decide +kernel
theorem dX4_readNumber_77 : decode cX4_readNumber 77 = .ok (.if_icmp .le 11, 3) := by decide +kernel
theorem dX4_readNumber_80 : decode cX4_readNumber 80 = .ok (.aload_n 0, 1) := by decide +kernel
theorem dX4_readNumber_81 : decode cX4_readNumber 81 = .ok (.iconst 2, 1) := by decide +kernel
theorem dX4_readNumber_82 : decode cX4_readNumber 82 = .ok (.invokevirtual 58, 3) := by decide +kernel
theorem dX4_readNumber_85 : decode cX4_readNumber 85 = .ok (.pop, 1) := by decide +kernel
theorem dX4_readNumber_86 : decode cX4_readNumber 86 = .ok (.iconst (-1), 1) := by decide +kernel
theorem dX4_readNumber_87 : decode cX4_readNumber 87 = .ok (.ireturn, 1) := by decide +kernel
theorem dX4_readNumber_88 : decode cX4_readNumber 88 = .ok (.aload_n 0, 1) := by decide +kernel
theorem dX4_readNumber_89 : decode cX4_readNumber 89 = .ok (.dup, 1) := by decide +kernel
theorem dX4_readNumber_90 : decode cX4_readNumber 90 = .ok (.getfield 17, 3) := by decide +kernel
theorem dX4_readNumber_93 : decode cX4_readNumber 93 = .ok (.iload_n 3, 1) := by decide +kernel
theorem dX4_readNumber_94 : decode cX4_readNumber 94 = .ok (.iadd, 1) := by decide +kernel
theorem dX4_readNumber_95 : decode cX4_readNumber 95 = .ok (.putfield 17, 3) := by decide +kernel
theorem dX4_readNumber_98 : decode cX4_readNumber 98 = .ok (.iload 4, 2) := by decide +kernel
theorem dX4_readNumber_100 : decode cX4_readNumber 100 = .ok (.ireturn, 1) := by decide +kernel
theorem dX4_figuresFrom_0 : decode cX4_figuresFrom 0 = .ok (.iload_n 1, 1) := by decide +kernel
theorem dX4_figuresFrom_1 : decode cX4_figuresFrom 1 = .ok (.istore_n 2, 1) := by decide +kernel
theorem dX4_figuresFrom_2 : decode cX4_figuresFrom 2 = .ok (.iload_n 2, 1) := by decide +kernel
theorem dX4_figuresFrom_3 : decode cX4_figuresFrom 3 = .ok (.aload_n 0, 1) := by decide +kernel
theorem dX4_figuresFrom_4 : decode cX4_figuresFrom 4 = .ok (.getfield 13, 3) := by decide +kernel
theorem dX4_figuresFrom_7 : decode cX4_figuresFrom 7 = .ok (.if_icmp .ge 31, 3) := by decide +kernel
theorem dX4_figuresFrom_10 : decode cX4_figuresFrom 10 = .ok (.aload_n 0, 1) := by decide +kernel
theorem dX4_figuresFrom_11 : decode cX4_figuresFrom 11 = .ok (.getfield 9, 3) := by decide +kernel
theorem dX4_figuresFrom_14 : decode cX4_figuresFrom 14 = .ok (.iload_n 2, 1) := by decide +kernel
theorem dX4_figuresFrom_15 : decode cX4_figuresFrom 15 = .ok (.iaload, 1) := by decide +kernel
theorem dX4_figuresFrom_16 : decode cX4_figuresFrom 16 = .ok (.bipush 48, 2) := by decide +kernel
theorem dX4_figuresFrom_18 : decode cX4_figuresFrom 18 = .ok (.if_icmp .lt 20, 3) := by decide +kernel
theorem dX4_figuresFrom_21 : decode cX4_figuresFrom 21 = .ok (.aload_n 0, 1) := by decide +kernel
theorem dX4_figuresFrom_22 : decode cX4_figuresFrom 22 = .ok (.getfield 9, 3) := by decide +kernel
theorem dX4_figuresFrom_25 : decode cX4_figuresFrom 25 = .ok (.iload_n 2, 1) := by decide +kernel
theorem dX4_figuresFrom_26 : decode cX4_figuresFrom 26 = .ok (.iaload, 1) := by decide +kernel
theorem dX4_figuresFrom_27 : decode cX4_figuresFrom 27 = .ok (.bipush 57, 2) := by decide +kernel
theorem dX4_figuresFrom_29 : decode cX4_figuresFrom 29 = .ok (.if_icmp .gt 9, 3) := by decide +kernel
theorem dX4_figuresFrom_32 : decode cX4_figuresFrom 32 = .ok (.iinc 2 1, 3) := by decide +kernel
theorem dX4_figuresFrom_35 : decode cX4_figuresFrom 35 = .ok (.goto (-33), 3) := by decide +kernel
theorem dX4_figuresFrom_38 : decode cX4_figuresFrom 38 = .ok (.iload_n 2, 1) := by decide +kernel
theorem dX4_figuresFrom_39 : decode cX4_figuresFrom 39 = .ok (.iload_n 1, 1) := by decide +kernel
theorem dX4_figuresFrom_40 : decode cX4_figuresFrom 40 = .ok (.isub, 1) := by decide +kernel
theorem dX4_figuresFrom_41 : decode cX4_figuresFrom 41 = .ok (.ireturn, 1) := by decide +kernel
theorem dX5_init_0 : decode cX5_init 0 = .ok (.aload_n 0, 1) := by decide +kernel
theorem dX5_init_1 : decode cX5_init 1 = .ok (.invokespecial 1, 3) := by decide +kernel
theorem dX5_init_4 : decode cX5_init 4 = .ok (.aload_n 0, 1) := by decide +kernel
theorem dX5_init_5 : decode cX5_init 5 = .ok (.new 7, 3) := by decide +kernel
theorem dX5_init_8 : decode cX5_init 8 = .ok (.dup, 1) := by decide +kernel
theorem dX5_init_9 : decode cX5_init 9 = .ok (.invokespecial 9, 3) := by decide +kernel
theorem dX5_init_12 : decode cX5_init 12 = .ok (.putfield 10, 3) := by decide +kernel
theorem dX5_init_15 : decode cX5_init 15 = .ok (.aload_n 0, 1) := by decide +kernel
theorem dX5_init_16 : decode cX5_init 16 = .ok (.new 16, 3) := by decide +kernel
theorem dX5_init_19 : decode cX5_init 19 = .ok (.dup, 1) := by decide +kernel
theorem dX5_init_20 : decode cX5_init 20 = .ok (.invokespecial 18, 3) := by decide +kernel
theorem dX5_init_23 : decode cX5_init 23 = .ok (.putfield 19, 3) := by decide +kernel
theorem dX5_init_26 : decode cX5_init 26 = .ok (.aload_n 0, 1) := by decide +kernel
theorem dX5_init_27 : decode cX5_init 27 = .ok (.new 23, 3) := by decide +kernel
theorem dX5_init_30 : decode cX5_init 30 = .ok (.dup, 1) := by decide +kernel
theorem dX5_init_31 : decode cX5_init 31 = .ok (.invokespecial 25, 3) := by decide +kernel
theorem dX5_init_34 : decode cX5_init 34 = .ok (.putfield 26, 3) := by decide +kernel
theorem dX5_init_37 : decode cX5_init 37 = .ok (.aload_n 0, 1) := by decide +kernel
theorem dX5_init_38 : decode cX5_init 38 = .ok (.new 30, 3) := by decide +kernel
theorem dX5_init_41 : decode cX5_init 41 = .ok (.dup, 1) := by decide +kernel
theorem dX5_init_42 : decode cX5_init 42 = .ok (.invokespecial 32, 3) := by decide +kernel
theorem dX5_init_45 : decode cX5_init 45 = .ok (.putfield 33, 3) := by decide +kernel
theorem dX5_init_48 : decode cX5_init 48 = .ok (.aload_n 0, 1) := by decide +kernel
theorem dX5_init_49 : decode cX5_init 49 = .ok (.new 30, 3) := by decide +kernel
theorem dX5_init_52 : decode cX5_init 52 = .ok (.dup, 1) := by decide +kernel
theorem dX5_init_53 : decode cX5_init 53 = .ok (.invokespecial 32, 3) := by decide +kernel
theorem dX5_init_56 : decode cX5_init 56 = .ok (.putfield 37, 3) := by decide +kernel
theorem dX5_init_59 : decode cX5_init 59 = .ok (.aload_n 0, 1) := by decide +kernel
theorem dX5_init_60 : decode cX5_init 60 = .ok (.bipush 24, 2) := by decide +kernel
theorem dX5_init_62 : decode cX5_init 62 = .ok (.anewarray 30, 3) := by decide +kernel
theorem dX5_init_65 : decode cX5_init 65 = .ok (.putfield 40, 3) := by decide +kernel
theorem dX5_init_68 : decode cX5_init 68 = .ok (.aload_n 0, 1) := by decide +kernel
theorem dX5_init_69 : decode cX5_init 69 = .ok (.iconst 2, 1) := by decide +kernel
theorem dX5_init_70 : decode cX5_init 70 = .ok (.anewarray 30, 3) := by decide +kernel
theorem dX5_init_73 : decode cX5_init 73 = .ok (.putfield 44, 3) := by decide +kernel
theorem dX5_init_76 : decode cX5_init 76 = .ok (.aload_n 0, 1) := by decide +kernel
theorem dX5_init_77 : decode cX5_init 77 = .ok (.iconst 0, 1) := by decide +kernel
theorem dX5_init_78 : decode cX5_init 78 = .ok (.putfield 47, 3) := by decide +kernel
theorem dX5_init_81 : decode cX5_init 81 = .ok (.aload_n 0, 1) := by decide +kernel
theorem dX5_init_82 : decode cX5_init 82 = .ok (.iconst 0, 1) := by decide +kernel
theorem dX5_init_83 : decode cX5_init 83 = .ok (.putfield 51, 3) := by decide +kernel
theorem dX5_init_86 : decode cX5_init 86 = .ok (.aload_n 0, 1) := by decide +kernel
theorem dX5_init_87 : decode cX5_init 87 = .ok (.iconst 0, 1) := by decide +kernel
theorem dX5_init_88 : decode cX5_init 88 = .ok (.putfield 54, 3) := by decide +kernel
theorem dX5_init_91 : decode cX5_init 91 = .ok (.iconst 0, 1) := by decide +kernel
theorem dX5_init_92 : decode cX5_init 92 = .ok (.istore_n 1, 1) := by decide +kernel
theorem dX5_init_93 : decode cX5_init 93 = .ok (.iload_n 1, 1) := by decide +kernel
theorem dX5_init_94 : decode cX5_init 94 = .ok (.bipush 24, 2) := by decide +kernel
theorem dX5_init_96 : decode cX5_init 96 = .ok (.if_icmp .ge 22, 3) := by decide +kernel
theorem dX5_init_99 : decode cX5_init 99 = .ok (.aload_n 0, 1) := by decide +kernel
theorem dX5_init_100 : decode cX5_init 100 = .ok (.getfield 40, 3) := by decide +kernel
theorem dX5_init_103 : decode cX5_init 103 = .ok (.iload_n 1, 1) := by decide +kernel
theorem dX5_init_104 : decode cX5_init 104 = .ok (.new 30, 3) := by decide +kernel
theorem dX5_init_107 : decode cX5_init 107 = .ok (.dup, 1) := by decide +kernel
theorem dX5_init_108 : decode cX5_init 108 = .ok (.invokespecial 32, 3) := by decide +kernel
theorem dX5_init_111 : decode cX5_init 111 = .ok (.aastore, 1) := by decide +kernel
theorem dX5_init_112 : decode cX5_init 112 = .ok (.iinc 1 1, 3) := by decide +kernel
theorem dX5_init_115 : decode cX5_init 115 = .ok (.goto (-22), 3) := by decide +kernel
theorem dX5_init_118 : decode cX5_init 118 = .ok (.iconst 0, 1) := by decide +kernel
theorem dX5_init_119 : decode cX5_init 119 = .ok (.istore_n 1, 1) := by decide +kernel
theorem dX5_init_120 : decode cX5_init 120 = .ok (.iload_n 1, 1) := by decide +kernel
theorem dX5_init_121 : decode cX5_init 121 = .ok (.iconst 2, 1) := by decide +kernel
theorem dX5_init_122 : decode cX5_init 122 = .ok (.if_icmp .ge 22, 3) := by decide +kernel
theorem dX5_init_125 : decode cX5_init 125 = .ok (.aload_n 0, 1) := by decide +kernel
theorem dX5_init_126 : decode cX5_init 126 = .ok (.getfield 44, 3) := by decide +kernel
theorem dX5_init_129 : decode cX5_init 129 = .ok (.iload_n 1, 1) := by decide +kernel
theorem dX5_init_130 : decode cX5_init 130 = .ok (.new 30, 3) := by decide +kernel
theorem dX5_init_133 : decode cX5_init 133 = .ok (.dup, 1) := by decide +kernel
theorem dX5_init_134 : decode cX5_init 134 = .ok (.invokespecial 32, 3) := by decide +kernel
theorem dX5_init_137 : decode cX5_init 137 = .ok (.aastore, 1) := by decide +kernel
theorem dX5_init_138 : decode cX5_init 138 = .ok (.iinc 1 1, 3) := by decide +kernel
theorem dX5_init_141 : decode cX5_init 141 = .ok (.goto (-21), 3) := by decide +kernel
theorem dX5_init_144 : decode cX5_init 144 = .ok (.return_, 1) := by decide +kernel
theorem dX5_row_0 : decode cX5_row 0 = .ok (.iload_n 1, 1) := by decide +kernel
theorem dX5_row_1 : decode cX5_row 1 = .ok (.invokestatic 57, 3) := by decide +kernel
theorem dX5_row_4 : decode cX5_row 4 = .ok (.ifCond .eq 16, 3) := by decide +kernel
theorem dX5_row_7 : decode cX5_row 7 = .ok (.iload_n 2, 1) := by decide +kernel
theorem dX5_row_8 : decode cX5_row 8 = .ok (.invokestatic 61, 3) := by decide +kernel
theorem dX5_row_11 : decode cX5_row 11 = .ok (.ifCond .eq 9, 3) := by decide +kernel
theorem dX5_row_14 : decode cX5_row 14 = .ok (.iload_n 3, 1) := by decide +kernel
theorem dX5_row_15 : decode cX5_row 15 = .ok (.bipush 40, 2) := by decide +kernel
theorem dX5_row_17 : decode cX5_row 17 = .ok (.if_icmp .le 6, 3) := by decide +kernel
theorem dX5_row_20 : decode cX5_row 20 = .ok (.ldc 64, 2) := by decide +kernel
theorem dX5_row_22 : decode cX5_row 22 = .ok (.ireturn, 1) := by decide +kernel
theorem dX5_row_23 : decode cX5_row 23 = .ok (.iload_n 3, 1) := by decide +kernel
theorem dX5_row_24 : decode cX5_row 24 = .ok (.ifCond .ge 9, 3) := by decide +kernel
theorem dX5_row_27 : decode cX5_row 27 = .ok (.aload_n 0, 1) := by decide +kernel
theorem dX5_row_28 : decode cX5_row 28 = .ok (.iconst 4, 1) := by decide +kernel
theorem dX5_row_29 : decode cX5_row 29 = .ok (.invokevirtual 65, 3) := by decide +kernel
theorem dX5_row_32 : decode cX5_row 32 = .ok (.ireturn, 1) := by decide +kernel
theorem dX5_row_33 : decode cX5_row 33 = .ok (.aload_n 0, 1) := by decide +kernel
theorem dX5_row_34 : decode cX5_row 34 = .ok (.getfield 10, 3) := by decide +kernel
theorem dX5_row_37 : decode cX5_row 37 = .ok (.iload_n 1, 1) := by decide +kernel
theorem dX5_row_38 : decode cX5_row 38 = .ok (.iload_n 2, 1) := by decide +kernel
theorem dX5_row_39 : decode cX5_row 39 = .ok (.iload_n 3, 1) := by decide +kernel
theorem dX5_row_40 : decode cX5_row 40 = .ok (.invokevirtual 69, 3) := by decide +kernel
theorem dX5_row_43 : decode cX5_row 43 = .ok (.aload_n 0, 1) := by decide +kernel
theorem dX5_row_44 : decode cX5_row 44 = .ok (.iload_n 3, 1) := by decide +kernel
theorem dX5_row_45 : decode cX5_row 45 = .ok (.invokevirtual 73, 3) := by decide +kernel
theorem dX5_row_48 : decode cX5_row 48 = .ok (.ireturn, 1) := by decide +kernel
theorem dX5_set_0 : decode cX5_set 0 = .ok (.iload_n 1, 1) := by decide +kernel
theorem dX5_set_1 : decode cX5_set 1 = .ok (.invokestatic 57, 3) := by decide +kernel
theorem dX5_set_4 : decode cX5_set 4 = .ok (.ifCond .ne 6, 3) := by decide +kernel
theorem dX5_set_7 : decode cX5_set 7 = .ok (.ldc 64, 2) := by decide +kernel
theorem dX5_set_9 : decode cX5_set 9 = .ok (.ireturn, 1) := by decide +kernel
theorem dX5_set_10 : decode cX5_set 10 = .ok (.aload_n 0, 1) := by decide +kernel
theorem dX5_set_11 : decode cX5_set 11 = .ok (.getfield 10, 3) := by decide +kernel
theorem dX5_set_14 : decode cX5_set 14 = .ok (.iload_n 1, 1) := by decide +kernel
theorem dX5_set_15 : decode cX5_set 15 = .ok (.invokevirtual 76, 3) := by decide +kernel
theorem dX5_set_18 : decode cX5_set 18 = .ok (.ifCond .eq 9, 3) := by decide +kernel
theorem dX5_set_21 : decode cX5_set 21 = .ok (.aload_n 0, 1) := by decide +kernel
theorem dX5_set_22 : decode cX5_set 22 = .ok (.iconst 1, 1) := by decide +kernel
theorem dX5_set_23 : decode cX5_set 23 = .ok (.invokevirtual 65, 3) := by decide +kernel
theorem dX5_set_26 : decode cX5_set 26 = .ok (.ireturn, 1) := by decide +kernel
theorem dX5_set_27 : decode cX5_set 27 = .ok (.aload_n 0, 1) := by decide +kernel
theorem dX5_set_28 : decode cX5_set 28 = .ok (.getfield 10, 3) := by decide +kernel
theorem dX5_set_31 : decode cX5_set 31 = .ok (.iload_n 1, 1) := by decide +kernel
theorem dX5_set_32 : decode cX5_set 32 = .ok (.iload_n 2, 1) := by decide +kernel
theorem dX5_set_33 : decode cX5_set 33 = .ok (.iconst 1, 1) := by decide +kernel
theorem dX5_set_34 : decode cX5_set 34 = .ok (.invokevirtual 79, 3) := by decide +kernel
theorem dX5_set_37 : decode cX5_set 37 = .ok (.ifCond .ne 9, 3) := by decide +kernel
theorem dX5_set_40 : decode cX5_set 40 = .ok (.aload_n 0, 1) := by decide +kernel
theorem dX5_set_41 : decode cX5_set 41 = .ok (.iconst 2, 1) := by decide +kernel
theorem dX5_set_42 : decode cX5_set 42 = .ok (.invokevirtual 65, 3) := by decide +kernel
theorem dX5_set_45 : decode cX5_set 45 = .ok (.ireturn, 1) := by decide +kernel
theorem dX5_set_46 : decode cX5_set 46 = .ok (.aload_n 0, 1) := by decide +kernel
theorem dX5_set_47 : decode cX5_set 47 = .ok (.aload_n 0, 1) := by decide +kernel
theorem dX5_set_48 : decode cX5_set 48 = .ok (.getfield 10, 3) := by decide +kernel
theorem dX5_set_51 : decode cX5_set 51 = .ok (.iload_n 1, 1) := by decide +kernel
theorem dX5_set_52 : decode cX5_set 52 = .ok (.iload_n 2, 1) := by decide +kernel
theorem dX5_set_53 : decode cX5_set 53 = .ok (.iload_n 3, 1) := by decide +kernel
theorem dX5_set_54 : decode cX5_set 54 = .ok (.invokevirtual 83, 3) := by decide +kernel
theorem dX5_set_57 : decode cX5_set 57 = .ok (.invokevirtual 73, 3) := by decide +kernel
theorem dX5_set_60 : decode cX5_set 60 = .ok (.ireturn, 1) := by decide +kernel
theorem dX5_copy_0 : decode cX5_copy 0 = .ok (.iload_n 1, 1) := by decide +kernel
theorem dX5_copy_1 : decode cX5_copy 1 = .ok (.invokestatic 57, 3) := by decide +kernel
theorem dX5_copy_4 : decode cX5_copy 4 = .ok (.ifCond .eq 10, 3) := by decide +kernel
theorem dX5_copy_7 : decode cX5_copy 7 = .ok (.iload_n 3, 1) := by decide +kernel
theorem dX5_copy_8 : decode cX5_copy 8 = .ok (.invokestatic 57, 3) := by decide +kernel
theorem dX5_copy_11 : decode cX5_copy 11 = .ok (.ifCond .ne 6, 3) := by decide +kernel
theorem dX5_copy_14 : decode cX5_copy 14 = .ok (.ldc 64, 2) := by decide +kernel
theorem dX5_copy_16 : decode cX5_copy 16 = .ok (.ireturn, 1) := by decide +kernel
theorem dX5_copy_17 : decode cX5_copy 17 = .ok (.aload_n 0, 1) := by decide +kernel
theorem dX5_copy_18 : decode cX5_copy 18 = .ok (.getfield 10, 3) := by decide +kernel
theorem dX5_copy_21 : decode cX5_copy 21 = .ok (.iload_n 1, 1) := by decide +kernel
theorem dX5_copy_22 : decode cX5_copy 22 = .ok (.invokevirtual 76, 3) := by decide +kernel
theorem dX5_copy_25 : decode cX5_copy 25 = .ok (.ifCond .ne 14, 3) := by decide +kernel
theorem dX5_copy_28 : decode cX5_copy 28 = .ok (.aload_n 0, 1) := by decide +kernel
theorem dX5_copy_29 : decode cX5_copy 29 = .ok (.getfield 10, 3) := by decide +kernel
theorem dX5_copy_32 : decode cX5_copy 32 = .ok (.iload_n 3, 1) := by decide +kernel
theorem dX5_copy_33 : decode cX5_copy 33 = .ok (.invokevirtual 76, 3) := by decide +kernel
theorem dX5_copy_36 : decode cX5_copy 36 = .ok (.ifCond .eq 9, 3) := by decide +kernel
theorem dX5_copy_39 : decode cX5_copy 39 = .ok (.aload_n 0, 1) := by decide +kernel
theorem dX5_copy_40 : decode cX5_copy 40 = .ok (.iconst 1, 1) := by decide +kernel
theorem dX5_copy_41 : decode cX5_copy 41 = .ok (.invokevirtual 65, 3) := by decide +kernel
theorem dX5_copy_44 : decode cX5_copy 44 = .ok (.ireturn, 1) := by decide +kernel
theorem dX5_copy_45 : decode cX5_copy 45 = .ok (.aload_n 0, 1) := by decide +kernel
theorem dX5_copy_46 : decode cX5_copy 46 = .ok (.getfield 10, 3) := by decide +kernel
theorem dX5_copy_49 : decode cX5_copy 49 = .ok (.iload_n 1, 1) := by decide +kernel
theorem dX5_copy_50 : decode cX5_copy 50 = .ok (.iload_n 3, 1) := by decide +kernel
theorem dX5_copy_51 : decode cX5_copy 51 = .ok (.invokevirtual 87, 3) := by decide +kernel
theorem dX5_copy_54 : decode cX5_copy 54 = .ok (.ifCond .ne 9, 3) := by decide +kernel
theorem dX5_copy_57 : decode cX5_copy 57 = .ok (.aload_n 0, 1) := by decide +kernel
theorem dX5_copy_58 : decode cX5_copy 58 = .ok (.iconst 5, 1) := by decide +kernel
theorem dX5_copy_59 : decode cX5_copy 59 = .ok (.invokevirtual 65, 3) := by decide +kernel
theorem dX5_copy_62 : decode cX5_copy 62 = .ok (.ireturn, 1) := by decide +kernel
theorem dX5_copy_63 : decode cX5_copy 63 = .ok (.aload_n 0, 1) := by decide +kernel
theorem dX5_copy_64 : decode cX5_copy 64 = .ok (.getfield 10, 3) := by decide +kernel
theorem dX5_copy_67 : decode cX5_copy 67 = .ok (.iload_n 1, 1) := by decide +kernel
theorem dX5_copy_68 : decode cX5_copy 68 = .ok (.iload_n 2, 1) := by decide +kernel
theorem dX5_copy_69 : decode cX5_copy 69 = .ok (.iload 5, 2) := by decide +kernel
theorem dX5_copy_71 : decode cX5_copy 71 = .ok (.invokevirtual 79, 3) := by decide +kernel
theorem dX5_copy_74 : decode cX5_copy 74 = .ok (.ifCond .eq 18, 3) := by decide +kernel
theorem dX5_copy_77 : decode cX5_copy 77 = .ok (.aload_n 0, 1) := by decide +kernel
theorem dX5_copy_78 : decode cX5_copy 78 = .ok (.getfield 10, 3) := by decide +kernel
theorem dX5_copy_81 : decode cX5_copy 81 = .ok (.iload_n 3, 1) := by decide +kernel
theorem dX5_copy_82 : decode cX5_copy 82 = .ok (.iload 4, 2) := by decide +kernel
theorem dX5_copy_84 : decode cX5_copy 84 = .ok (.iload 5, 2) := by decide +kernel
theorem dX5_copy_86 : decode cX5_copy 86 = .ok (.invokevirtual 79, 3) := by decide +kernel
theorem dX5_copy_89 : decode cX5_copy 89 = .ok (.ifCond .ne 9, 3) := by decide +kernel
theorem dX5_copy_92 : decode cX5_copy 92 = .ok (.aload_n 0, 1) := by decide +kernel
theorem dX5_copy_93 : decode cX5_copy 93 = .ok (.iconst 2, 1) := by decide +kernel
theorem dX5_copy_94 : decode cX5_copy 94 = .ok (.invokevirtual 65, 3) := by decide +kernel
theorem dX5_copy_97 : decode cX5_copy 97 = .ok (.ireturn, 1) := by decide +kernel
theorem dX5_copy_98 : decode cX5_copy 98 = .ok (.aload_n 0, 1) := by decide +kernel
theorem dX5_copy_99 : decode cX5_copy 99 = .ok (.getfield 10, 3) := by decide +kernel
theorem dX5_copy_102 : decode cX5_copy 102 = .ok (.iload_n 1, 1) := by decide +kernel
theorem dX5_copy_103 : decode cX5_copy 103 = .ok (.iload_n 2, 1) := by decide +kernel
theorem dX5_copy_104 : decode cX5_copy 104 = .ok (.iload_n 3, 1) := by decide +kernel
theorem dX5_copy_105 : decode cX5_copy 105 = .ok (.iload 4, 2) := by decide +kernel
theorem dX5_copy_107 : decode cX5_copy 107 = .ok (.iload 5, 2) := by decide +kernel
theorem dX5_copy_109 : decode cX5_copy 109 = .ok (.invokevirtual 91, 3) := by decide +kernel
theorem dX5_copy_112 : decode cX5_copy 112 = .ok (.aload_n 0, 1) := by decide +kernel
theorem dX5_copy_113 : decode cX5_copy 113 = .ok (.iload 5, 2) := by decide +kernel
theorem dX5_copy_115 : decode cX5_copy 115 = .ok (.invokevirtual 73, 3) := by decide +kernel
theorem dX5_copy_118 : decode cX5_copy 118 = .ok (.ireturn, 1) := by decide +kernel
theorem dX5_drop_0 : decode cX5_drop 0 = .ok (.iload_n 1, 1) := by decide +kernel
theorem dX5_drop_1 : decode cX5_drop 1 = .ok (.invokestatic 57, 3) := by decide +kernel
theorem dX5_drop_4 : decode cX5_drop 4 = .ok (.ifCond .ne 6, 3) := by decide +kernel
theorem dX5_drop_7 : decode cX5_drop 7 = .ok (.ldc 64, 2) := by decide +kernel
theorem dX5_drop_9 : decode cX5_drop 9 = .ok (.ireturn, 1) := by decide +kernel
theorem dX5_drop_10 : decode cX5_drop 10 = .ok (.aload_n 0, 1) := by decide +kernel
theorem dX5_drop_11 : decode cX5_drop 11 = .ok (.getfield 10, 3) := by decide +kernel
theorem dX5_drop_14 : decode cX5_drop 14 = .ok (.iload_n 1, 1) := by decide +kernel
theorem dX5_drop_15 : decode cX5_drop 15 = .ok (.invokevirtual 76, 3) := by decide +kernel
theorem dX5_drop_18 : decode cX5_drop 18 = .ok (.ifCond .eq 9, 3) := by decide +kernel
theorem dX5_drop_21 : decode cX5_drop 21 = .ok (.aload_n 0, 1) := by decide +kernel
theorem dX5_drop_22 : decode cX5_drop 22 = .ok (.iconst 1, 1) := by decide +kernel
theorem dX5_drop_23 : decode cX5_drop 23 = .ok (.invokevirtual 65, 3) := by decide +kernel
theorem dX5_drop_26 : decode cX5_drop 26 = .ok (.ireturn, 1) := by decide +kernel
theorem dX5_drop_27 : decode cX5_drop 27 = .ok (.aload_n 0, 1) := by decide +kernel
theorem dX5_drop_28 : decode cX5_drop 28 = .ok (.aload_n 0, 1) := by decide +kernel
theorem dX5_drop_29 : decode cX5_drop 29 = .ok (.getfield 10, 3) := by decide +kernel
theorem dX5_drop_32 : decode cX5_drop 32 = .ok (.iload_n 1, 1) := by decide +kernel
theorem dX5_drop_33 : decode cX5_drop 33 = .ok (.invokevirtual 95, 3) := by decide +kernel
theorem dX5_drop_36 : decode cX5_drop 36 = .ok (.invokevirtual 73, 3) := by decide +kernel
theorem dX5_drop_39 : decode cX5_drop 39 = .ok (.ireturn, 1) := by decide +kernel
theorem dX5_feed_0 : decode cX5_feed 0 = .ok (.iload_n 1, 1) := by decide +kernel
theorem dX5_feed_1 : decode cX5_feed 1 = .ok (.iconst 0, 1) := by decide +kernel
theorem dX5_feed_2 : decode cX5_feed 2 = .ok (.sipush 255, 3) := by decide +kernel
theorem dX5_feed_5 : decode cX5_feed 5 = .ok (.invokestatic 98, 3) := by decide +kernel
theorem dX5_feed_8 : decode cX5_feed 8 = .ok (.ifCond .ne 6, 3) := by decide +kernel
theorem dX5_feed_11 : decode cX5_feed 11 = .ok (.ldc 64, 2) := by decide +kernel
theorem dX5_feed_13 : decode cX5_feed 13 = .ok (.ireturn, 1) := by decide +kernel
theorem dX5_feed_14 : decode cX5_feed 14 = .ok (.aload_n 0, 1) := by decide +kernel
theorem dX5_feed_15 : decode cX5_feed 15 = .ok (.getfield 19, 3) := by decide +kernel
theorem dX5_feed_18 : decode cX5_feed 18 = .ok (.invokevirtual 101, 3) := by decide +kernel
theorem dX5_feed_21 : decode cX5_feed 21 = .ok (.ifCond .eq 6, 3) := by decide +kernel
theorem dX5_feed_24 : decode cX5_feed 24 = .ok (.ldc 105, 2) := by decide +kernel
theorem dX5_feed_26 : decode cX5_feed 26 = .ok (.ireturn, 1) := by decide +kernel
theorem dX5_feed_27 : decode cX5_feed 27 = .ok (.aload_n 0, 1) := by decide +kernel
theorem dX5_feed_28 : decode cX5_feed 28 = .ok (.getfield 19, 3) := by decide +kernel
theorem dX5_feed_31 : decode cX5_feed 31 = .ok (.iload_n 1, 1) := by decide +kernel
theorem dX5_feed_32 : decode cX5_feed 32 = .ok (.invokevirtual 106, 3) := by decide +kernel
theorem dX5_feed_35 : decode cX5_feed 35 = .ok (.ireturn, 1) := by decide +kernel
theorem dX5_river_0 : decode cX5_river 0 = .ok (.aload_n 0, 1) := by decide +kernel
theorem dX5_river_1 : decode cX5_river 1 = .ok (.getfield 19, 3) := by decide +kernel
theorem dX5_river_4 : decode cX5_river 4 = .ok (.aload_n 0, 1) := by decide +kernel
theorem dX5_river_5 : decode cX5_river 5 = .ok (.getfield 37, 3) := by decide +kernel
theorem dX5_river_8 : decode cX5_river 8 = .ok (.invokevirtual 109, 3) := by decide +kernel
theorem dX5_river_11 : decode cX5_river 11 = .ok (.istore_n 1, 1) := by decide +kernel
theorem dX5_river_12 : decode cX5_river 12 = .ok (.aload_n 0, 1) := by decide +kernel
theorem dX5_river_13 : decode cX5_river 13 = .ok (.getfield 19, 3) := by decide +kernel
theorem dX5_river_16 : decode cX5_river 16 = .ok (.invokevirtual 113, 3) := by decide +kernel
theorem dX5_river_19 : decode cX5_river 19 = .ok (.iload_n 1, 1) := by decide +kernel
theorem dX5_river_20 : decode cX5_river 20 = .ok (.ifCond .ne 14, 3) := by decide +kernel
theorem dX5_river_23 : decode cX5_river 23 = .ok (.ldc 116, 2) := by decide +kernel
theorem dX5_river_25 : decode cX5_river 25 = .ok (.aload_n 0, 1) := by decide +kernel
theorem dX5_river_26 : decode cX5_river 26 = .ok (.getfield 19, 3) := by decide +kernel
theorem dX5_river_29 : decode cX5_river 29 = .ok (.getfield 117, 3) := by decide +kernel
theorem dX5_river_32 : decode cX5_river 32 = .ok (.isub, 1) := by decide +kernel
theorem dX5_river_33 : decode cX5_river 33 = .ok (.ireturn, 1) := by decide +kernel
theorem dX5_river_34 : decode cX5_river 34 = .ok (.aload_n 0, 1) := by decide +kernel
theorem dX5_river_35 : decode cX5_river 35 = .ok (.getfield 33, 3) := by decide +kernel
theorem dX5_river_38 : decode cX5_river 38 = .ok (.aload_n 0, 1) := by decide +kernel
theorem dX5_river_39 : decode cX5_river 39 = .ok (.getfield 37, 3) := by decide +kernel
theorem dX5_river_42 : decode cX5_river 42 = .ok (.invokevirtual 120, 3) := by decide +kernel
theorem dX5_river_45 : decode cX5_river 45 = .ok (.aload_n 0, 1) := by decide +kernel
theorem dX5_river_46 : decode cX5_river 46 = .ok (.invokevirtual 124, 3) := by decide +kernel
theorem dX5_river_49 : decode cX5_river 49 = .ok (.aload_n 0, 1) := by decide +kernel
theorem dX5_river_50 : decode cX5_river 50 = .ok (.getfield 33, 3) := by decide +kernel
theorem dX5_river_53 : decode cX5_river 53 = .ok (.getfield 127, 3) := by decide +kernel
theorem dX5_river_56 : decode cX5_river 56 = .ok (.ireturn, 1) := by decide +kernel
theorem dX5_fault_0 : decode cX5_fault 0 = .ok (.aload_n 0, 1) := by decide +kernel
theorem dX5_fault_1 : decode cX5_fault 1 = .ok (.getfield 19, 3) := by decide +kernel
theorem dX5_fault_4 : decode cX5_fault 4 = .ok (.getfield 130, 3) := by decide +kernel
theorem dX5_fault_7 : decode cX5_fault 7 = .ok (.ireturn, 1) := by decide +kernel
theorem dX5_minutes_0 : decode cX5_minutes 0 = .ok (.aload_n 0, 1) := by decide +kernel
theorem dX5_minutes_1 : decode cX5_minutes 1 = .ok (.invokevirtual 133, 3) := by decide +kernel
theorem dX5_minutes_4 : decode cX5_minutes 4 = .ok (.ifCond .ne 6, 3) := by decide +kernel
theorem dX5_minutes_7 : decode cX5_minutes 7 = .ok (.ldc 136, 2) := by decide +kernel
theorem dX5_minutes_9 : decode cX5_minutes 9 = .ok (.ireturn, 1) := by decide +kernel
theorem dX5_minutes_10 : decode cX5_minutes 10 = .ok (.iload_n 1, 1) := by decide +kernel
theorem dX5_minutes_11 : decode cX5_minutes 11 = .ok (.iconst 1, 1) := by decide +kernel
theorem dX5_minutes_12 : decode cX5_minutes 12 = .ok (.bipush 24, 2) := by decide +kernel
theorem dX5_minutes_14 : decode cX5_minutes 14 = .ok (.invokestatic 98, 3) := by decide +kernel
theorem dX5_minutes_17 : decode cX5_minutes 17 = .ok (.ifCond .ne 6, 3) := by decide +kernel
theorem dX5_minutes_20 : decode cX5_minutes 20 = .ok (.ldc 64, 2) := by decide +kernel
theorem dX5_minutes_22 : decode cX5_minutes 22 = .ok (.ireturn, 1) := by decide +kernel
theorem dX5_minutes_23 : decode cX5_minutes 23 = .ok (.aload_n 0, 1) := by decide +kernel
theorem dX5_minutes_24 : decode cX5_minutes 24 = .ok (.getfield 33, 3) := by decide +kernel
theorem dX5_minutes_27 : decode cX5_minutes 27 = .ok (.getfield 137, 3) := by decide +kernel
theorem dX5_minutes_30 : decode cX5_minutes 30 = .ok (.iload_n 1, 1) := by decide +kernel
theorem dX5_minutes_31 : decode cX5_minutes 31 = .ok (.iadd, 1) := by decide +kernel
theorem dX5_minutes_32 : decode cX5_minutes 32 = .ok (.sipush 9999, 3) := by decide +kernel
theorem dX5_minutes_35 : decode cX5_minutes 35 = .ok (.if_icmp .le 6, 3) := by decide +kernel
theorem dX5_minutes_38 : decode cX5_minutes 38 = .ok (.ldc 105, 2) := by decide +kernel
theorem dX5_minutes_40 : decode cX5_minutes 40 = .ok (.ireturn, 1) := by decide +kernel
theorem dX5_minutes_41 : decode cX5_minutes 41 = .ok (.iconst 0, 1) := by decide +kernel
theorem dX5_minutes_42 : decode cX5_minutes 42 = .ok (.istore_n 2, 1) := by decide +kernel
theorem dX5_minutes_43 : decode cX5_minutes 43 = .ok (.iload_n 2, 1) := by decide +kernel
theorem dX5_minutes_44 : decode cX5_minutes 44 = .ok (.iload_n 1, 1) := by decide +kernel
theorem dX5_minutes_45 : decode cX5_minutes 45 = .ok (.if_icmp .ge 20, 3) := by decide +kernel
theorem dX5_minutes_48 : decode cX5_minutes 48 = .ok (.aload_n 0, 1) := by decide +kernel
theorem dX5_minutes_49 : decode cX5_minutes 49 = .ok (.invokevirtual 140, 3) := by decide +kernel
theorem dX5_minutes_52 : decode cX5_minutes 52 = .ok (.aload_n 0, 1) := by decide +kernel
theorem dX5_minutes_53 : decode cX5_minutes 53 = .ok (.getfield 33, 3) := by decide +kernel
theorem dX5_minutes_56 : decode cX5_minutes 56 = .ok (.invokevirtual 143, 3) := by decide +kernel
theorem dX5_minutes_59 : decode cX5_minutes 59 = .ok (.iinc 2 1, 3) := by decide +kernel
theorem dX5_minutes_62 : decode cX5_minutes 62 = .ok (.goto (-19), 3) := by decide +kernel
theorem dX5_minutes_65 : decode cX5_minutes 65 = .ok (.aload_n 0, 1) := by decide +kernel
theorem dX5_minutes_66 : decode cX5_minutes 66 = .ok (.getfield 33, 3) := by decide +kernel
theorem dX5_minutes_69 : decode cX5_minutes 69 = .ok (.invokevirtual 146, 3) := by decide +kernel
theorem dX5_minutes_72 : decode cX5_minutes 72 = .ok (.ireturn, 1) := by decide +kernel
theorem dX5_say_0 : decode cX5_say 0 = .ok (.aload_n 0, 1) := by decide +kernel
theorem dX5_say_1 : decode cX5_say 1 = .ok (.getfield 33, 3) := by decide +kernel
theorem dX5_say_4 : decode cX5_say 4 = .ok (.iload_n 1, 1) := by decide +kernel
theorem dX5_say_5 : decode cX5_say 5 = .ok (.invokevirtual 150, 3) := by decide +kernel
theorem dX5_say_8 : decode cX5_say 8 = .ok (.ifCond .eq 24, 3) := by decide +kernel
theorem dX5_say_11 : decode cX5_say 11 = .ok (.iload_n 2, 1) := by decide +kernel
theorem dX5_say_12 : decode cX5_say 12 = .ok (.iconst 1, 1) := by decide +kernel
theorem dX5_say_13 : decode cX5_say 13 = .ok (.bipush 60, 2) := by decide +kernel
theorem dX5_say_15 : decode cX5_say 15 = .ok (.invokestatic 98, 3) := by decide +kernel
theorem dX5_say_18 : decode cX5_say 18 = .ok (.ifCond .eq 14, 3) := by decide +kernel
theorem dX5_say_21 : decode cX5_say 21 = .ok (.aload_n 0, 1) := by decide +kernel
theorem dX5_say_22 : decode cX5_say 22 = .ok (.getfield 33, 3) := by decide +kernel
theorem dX5_say_25 : decode cX5_say 25 = .ok (.iload_n 3, 1) := by decide +kernel
theorem dX5_say_26 : decode cX5_say 26 = .ok (.invokevirtual 153, 3) := by decide +kernel
theorem dX5_say_29 : decode cX5_say 29 = .ok (.ifCond .ne 6, 3) := by decide +kernel
theorem dX5_say_32 : decode cX5_say 32 = .ok (.ldc 64, 2) := by decide +kernel
theorem dX5_say_34 : decode cX5_say 34 = .ok (.ireturn, 1) := by decide +kernel
theorem dX5_say_35 : decode cX5_say 35 = .ok (.aload_n 0, 1) := by decide +kernel
theorem dX5_say_36 : decode cX5_say 36 = .ok (.getfield 33, 3) := by decide +kernel
theorem dX5_say_39 : decode cX5_say 39 = .ok (.iload_n 1, 1) := by decide +kernel
theorem dX5_say_40 : decode cX5_say 40 = .ok (.invokevirtual 156, 3) := by decide +kernel
theorem dX5_say_43 : decode cX5_say 43 = .ok (.istore 4, 2) := by decide +kernel
theorem dX5_say_45 : decode cX5_say 45 = .ok (.aload_n 0, 1) := by decide +kernel
theorem dX5_say_46 : decode cX5_say 46 = .ok (.invokevirtual 140, 3) := by decide +kernel
theorem dX5_say_49 : decode cX5_say 49 = .ok (.aload_n 0, 1) := by decide +kernel
theorem dX5_say_50 : decode cX5_say 50 = .ok (.getfield 33, 3) := by decide +kernel
theorem dX5_say_53 : decode cX5_say 53 = .ok (.getfield 159, 3) := by decide +kernel
theorem dX5_say_56 : decode cX5_say 56 = .ok (.iload_n 1, 1) := by decide +kernel
theorem dX5_say_57 : decode cX5_say 57 = .ok (.iload_n 2, 1) := by decide +kernel
theorem dX5_say_58 : decode cX5_say 58 = .ok (.iload_n 3, 1) := by decide +kernel
theorem dX5_say_59 : decode cX5_say 59 = .ok (.invokestatic 163, 3) := by decide +kernel
theorem dX5_say_62 : decode cX5_say 62 = .ok (.iastore, 1) := by decide +kernel
theorem dX5_say_63 : decode cX5_say 63 = .ok (.iload 4, 2) := by decide +kernel
theorem dX5_say_65 : decode cX5_say 65 = .ok (.ireturn, 1) := by decide +kernel
theorem dX5_speed_0 : decode cX5_speed 0 = .ok (.aload_n 0, 1) := by decide +kernel
theorem dX5_speed_1 : decode cX5_speed 1 = .ok (.getfield 33, 3) := by decide +kernel
theorem dX5_speed_4 : decode cX5_speed 4 = .ok (.iload_n 1, 1) := by decide +kernel
theorem dX5_speed_5 : decode cX5_speed 5 = .ok (.invokevirtual 153, 3) := by decide +kernel
theorem dX5_speed_8 : decode cX5_speed 8 = .ok (.ifCond .eq 12, 3) := by decide +kernel
theorem dX5_speed_11 : decode cX5_speed 11 = .ok (.iload_n 2, 1) := by decide +kernel
theorem dX5_speed_12 : decode cX5_speed 12 = .ok (.iconst 0, 1) := by decide +kernel
theorem dX5_speed_13 : decode cX5_speed 13 = .ok (.iconst 3, 1) := by decide +kernel
theorem dX5_speed_14 : decode cX5_speed 14 = .ok (.invokestatic 98, 3) := by decide +kernel
theorem dX5_speed_17 : decode cX5_speed 17 = .ok (.ifCond .ne 6, 3) := by decide +kernel
theorem dX5_speed_20 : decode cX5_speed 20 = .ok (.ldc 64, 2) := by decide +kernel
theorem dX5_speed_22 : decode cX5_speed 22 = .ok (.ireturn, 1) := by decide +kernel
theorem dX5_speed_23 : decode cX5_speed 23 = .ok (.aload_n 0, 1) := by decide +kernel
theorem dX5_speed_24 : decode cX5_speed 24 = .ok (.getfield 33, 3) := by decide +kernel
theorem dX5_speed_27 : decode cX5_speed 27 = .ok (.getfield 167, 3) := by decide +kernel
theorem dX5_speed_30 : decode cX5_speed 30 = .ok (.iload_n 1, 1) := by decide +kernel
theorem dX5_speed_31 : decode cX5_speed 31 = .ok (.iaload, 1) := by decide +kernel
theorem dX5_speed_32 : decode cX5_speed 32 = .ok (.istore_n 3, 1) := by decide +kernel
theorem dX5_speed_33 : decode cX5_speed 33 = .ok (.aload_n 0, 1) := by decide +kernel
theorem dX5_speed_34 : decode cX5_speed 34 = .ok (.invokevirtual 140, 3) := by decide +kernel
theorem dX5_speed_37 : decode cX5_speed 37 = .ok (.aload_n 0, 1) := by decide +kernel
theorem dX5_speed_38 : decode cX5_speed 38 = .ok (.getfield 33, 3) := by decide +kernel
theorem dX5_speed_41 : decode cX5_speed 41 = .ok (.getfield 167, 3) := by decide +kernel
theorem dX5_speed_44 : decode cX5_speed 44 = .ok (.iload_n 1, 1) := by decide +kernel
theorem dX5_speed_45 : decode cX5_speed 45 = .ok (.iload_n 2, 1) := by decide +kernel
theorem dX5_speed_46 : decode cX5_speed 46 = .ok (.iastore, 1) := by decide +kernel
theorem dX5_speed_47 : decode cX5_speed 47 = .ok (.iload_n 3, 1) := by decide +kernel
theorem dX5_speed_48 : decode cX5_speed 48 = .ok (.ireturn, 1) := by decide +kernel
theorem dX5_rain_0 : decode cX5_rain 0 = .ok (.aload_n 0, 1) := by decide +kernel
theorem dX5_rain_1 : decode cX5_rain 1 = .ok (.invokevirtual 133, 3) := by decide +kernel
theorem dX5_rain_4 : decode cX5_rain 4 = .ok (.ifCond .ne 6, 3) := by decide +kernel
theorem dX5_rain_7 : decode cX5_rain 7 = .ok (.ldc 136, 2) := by decide +kernel
theorem dX5_rain_9 : decode cX5_rain 9 = .ok (.ireturn, 1) := by decide +kernel
theorem dX5_rain_10 : decode cX5_rain 10 = .ok (.iload_n 1, 1) := by decide +kernel
theorem dX5_rain_11 : decode cX5_rain 11 = .ok (.iconst 0, 1) := by decide +kernel
theorem dX5_rain_12 : decode cX5_rain 12 = .ok (.bipush 15, 2) := by decide +kernel
theorem dX5_rain_14 : decode cX5_rain 14 = .ok (.invokestatic 98, 3) := by decide +kernel
theorem dX5_rain_17 : decode cX5_rain 17 = .ok (.ifCond .ne 6, 3) := by decide +kernel
theorem dX5_rain_20 : decode cX5_rain 20 = .ok (.ldc 64, 2) := by decide +kernel
theorem dX5_rain_22 : decode cX5_rain 22 = .ok (.ireturn, 1) := by decide +kernel
theorem dX5_rain_23 : decode cX5_rain 23 = .ok (.aload_n 0, 1) := by decide +kernel
theorem dX5_rain_24 : decode cX5_rain 24 = .ok (.getfield 33, 3) := by decide +kernel
theorem dX5_rain_27 : decode cX5_rain 27 = .ok (.getfield 170, 3) := by decide +kernel
theorem dX5_rain_30 : decode cX5_rain 30 = .ok (.istore_n 2, 1) := by decide +kernel
theorem dX5_rain_31 : decode cX5_rain 31 = .ok (.aload_n 0, 1) := by decide +kernel
theorem dX5_rain_32 : decode cX5_rain 32 = .ok (.invokevirtual 140, 3) := by decide +kernel
theorem dX5_rain_35 : decode cX5_rain 35 = .ok (.aload_n 0, 1) := by decide +kernel
theorem dX5_rain_36 : decode cX5_rain 36 = .ok (.getfield 33, 3) := by decide +kernel
theorem dX5_rain_39 : decode cX5_rain 39 = .ok (.iload_n 1, 1) := by decide +kernel
theorem dX5_rain_40 : decode cX5_rain 40 = .ok (.putfield 170, 3) := by decide +kernel
theorem dX5_rain_43 : decode cX5_rain 43 = .ok (.iload_n 2, 1) := by decide +kernel
theorem dX5_rain_44 : decode cX5_rain 44 = .ok (.ireturn, 1) := by decide +kernel
theorem dX5_undo_0 : decode cX5_undo 0 = .ok (.aload_n 0, 1) := by decide +kernel
theorem dX5_undo_1 : decode cX5_undo 1 = .ok (.getfield 51, 3) := by decide +kernel
theorem dX5_undo_4 : decode cX5_undo 4 = .ok (.ifCond .ne 6, 3) := by decide +kernel
theorem dX5_undo_7 : decode cX5_undo 7 = .ok (.ldc 136, 2) := by decide +kernel
theorem dX5_undo_9 : decode cX5_undo 9 = .ok (.ireturn, 1) := by decide +kernel
theorem dX5_undo_10 : decode cX5_undo 10 = .ok (.aload_n 0, 1) := by decide +kernel
theorem dX5_undo_11 : decode cX5_undo 11 = .ok (.aload_n 0, 1) := by decide +kernel
theorem dX5_undo_12 : decode cX5_undo 12 = .ok (.getfield 47, 3) := by decide +kernel
theorem dX5_undo_15 : decode cX5_undo 15 = .ok (.bipush 24, 2) := by decide +kernel
theorem dX5_undo_17 : decode cX5_undo 17 = .ok (.iadd, 1) := by decide +kernel
theorem dX5_undo_18 : decode cX5_undo 18 = .ok (.iconst 1, 1) := by decide +kernel
theorem dX5_undo_19 : decode cX5_undo 19 = .ok (.isub, 1) := by decide +kernel
theorem dX5_undo_20 : decode cX5_undo 20 = .ok (.bipush 24, 2) := by decide +kernel
theorem dX5_undo_22 : decode cX5_undo 22 = .ok (.irem, 1) := by decide +kernel
theorem dX5_undo_23 : decode cX5_undo 23 = .ok (.putfield 47, 3) := by decide +kernel
theorem dX5_undo_26 : decode cX5_undo 26 = .ok (.aload_n 0, 1) := by decide +kernel
theorem dX5_undo_27 : decode cX5_undo 27 = .ok (.dup, 1) := by decide +kernel
theorem dX5_undo_28 : decode cX5_undo 28 = .ok (.getfield 51, 3) := by decide +kernel
theorem dX5_undo_31 : decode cX5_undo 31 = .ok (.iconst 1, 1) := by decide +kernel
theorem dX5_undo_32 : decode cX5_undo 32 = .ok (.isub, 1) := by decide +kernel
theorem dX5_undo_33 : decode cX5_undo 33 = .ok (.putfield 51, 3) := by decide +kernel
theorem dX5_undo_36 : decode cX5_undo 36 = .ok (.aload_n 0, 1) := by decide +kernel
theorem dX5_undo_37 : decode cX5_undo 37 = .ok (.getfield 33, 3) := by decide +kernel
theorem dX5_undo_40 : decode cX5_undo 40 = .ok (.aload_n 0, 1) := by decide +kernel
theorem dX5_undo_41 : decode cX5_undo 41 = .ok (.getfield 40, 3) := by decide +kernel
theorem dX5_undo_44 : decode cX5_undo 44 = .ok (.aload_n 0, 1) := by decide +kernel
theorem dX5_undo_45 : decode cX5_undo 45 = .ok (.getfield 47, 3) := by decide +kernel
theorem dX5_undo_48 : decode cX5_undo 48 = .ok (.aaload, 1) := by decide +kernel
theorem dX5_undo_49 : decode cX5_undo 49 = .ok (.invokevirtual 120, 3) := by decide +kernel
theorem dX5_undo_52 : decode cX5_undo 52 = .ok (.aload_n 0, 1) := by decide +kernel
theorem dX5_undo_53 : decode cX5_undo 53 = .ok (.getfield 51, 3) := by decide +kernel
theorem dX5_undo_56 : decode cX5_undo 56 = .ok (.ireturn, 1) := by decide +kernel
theorem dX5_word_0 : decode cX5_word 0 = .ok (.aload_n 0, 1) := by decide +kernel
theorem dX5_word_1 : decode cX5_word 1 = .ok (.getfield 33, 3) := by decide +kernel
theorem dX5_word_4 : decode cX5_word 4 = .ok (.iload_n 1, 1) := by decide +kernel
theorem dX5_word_5 : decode cX5_word 5 = .ok (.invokevirtual 150, 3) := by decide +kernel
theorem dX5_word_8 : decode cX5_word 8 = .ok (.ifCond .ne 6, 3) := by decide +kernel
theorem dX5_word_11 : decode cX5_word 11 = .ok (.ldc 64, 2) := by decide +kernel
theorem dX5_word_13 : decode cX5_word 13 = .ok (.ireturn, 1) := by decide +kernel
theorem dX5_word_14 : decode cX5_word 14 = .ok (.aload_n 0, 1) := by decide +kernel
theorem dX5_word_15 : decode cX5_word 15 = .ok (.getfield 33, 3) := by decide +kernel
theorem dX5_word_18 : decode cX5_word 18 = .ok (.getfield 159, 3) := by decide +kernel
theorem dX5_word_21 : decode cX5_word 21 = .ok (.iload_n 1, 1) := by decide +kernel
theorem dX5_word_22 : decode cX5_word 22 = .ok (.iaload, 1) := by decide +kernel
theorem dX5_word_23 : decode cX5_word 23 = .ok (.istore_n 3, 1) := by decide +kernel
theorem dX5_word_24 : decode cX5_word 24 = .ok (.iload_n 2, 1) := by decide +kernel
theorem dX5_word_25 : decode cX5_word 25 = .ok (.tableswitch 59 0 3 #[31, 36, 41, 54], 31) := by decide +kernel
theorem dX5_word_56 : decode cX5_word 56 = .ok (.iload_n 3, 1) := by decide +kernel
theorem dX5_word_57 : decode cX5_word 57 = .ok (.invokestatic 173, 3) := by decide +kernel
theorem dX5_word_60 : decode cX5_word 60 = .ok (.ireturn, 1) := by decide +kernel
theorem dX5_word_61 : decode cX5_word 61 = .ok (.iload_n 3, 1) := by decide +kernel
theorem dX5_word_62 : decode cX5_word 62 = .ok (.invokestatic 176, 3) := by decide +kernel
theorem dX5_word_65 : decode cX5_word 65 = .ok (.ireturn, 1) := by decide +kernel
theorem dX5_word_66 : decode cX5_word 66 = .ok (.iload_n 3, 1) := by decide +kernel
theorem dX5_word_67 : decode cX5_word 67 = .ok (.invokestatic 179, 3) := by decide +kernel
theorem dX5_word_70 : decode cX5_word 70 = .ok (.ifCond .eq 7, 3) := by decide +kernel
theorem dX5_word_73 : decode cX5_word 73 = .ok (.iconst 1, 1) := by decide +kernel
theorem dX5_word_74 : decode cX5_word 74 = .ok (.goto 4, 3) := by decide +kernel
theorem dX5_word_77 : decode cX5_word 77 = .ok (.iconst 0, 1) := by decide +kernel
theorem dX5_word_78 : decode cX5_word 78 = .ok (.ireturn, 1) := by decide +kernel
theorem dX5_word_79 : decode cX5_word 79 = .ok (.iload_n 3, 1) := by decide +kernel
theorem dX5_word_80 : decode cX5_word 80 = .ok (.invokestatic 182, 3) := by decide +kernel
theorem dX5_word_83 : decode cX5_word 83 = .ok (.ireturn, 1) := by decide +kernel
theorem dX5_word_84 : decode cX5_word 84 = .ok (.ldc 64, 2) := by decide +kernel
theorem dX5_word_86 : decode cX5_word 86 = .ok (.ireturn, 1) := by decide +kernel
theorem dX5_cell_0 : decode cX5_cell 0 = .ok (.aload_n 0, 1) := by decide +kernel
theorem dX5_cell_1 : decode cX5_cell 1 = .ok (.getfield 33, 3) := by decide +kernel
theorem dX5_cell_4 : decode cX5_cell 4 = .ok (.iload_n 1, 1) := by decide +kernel
theorem dX5_cell_5 : decode cX5_cell 5 = .ok (.invokevirtual 153, 3) := by decide +kernel
theorem dX5_cell_8 : decode cX5_cell 8 = .ok (.ifCond .ne 6, 3) := by decide +kernel
theorem dX5_cell_11 : decode cX5_cell 11 = .ok (.ldc 64, 2) := by decide +kernel
theorem dX5_cell_13 : decode cX5_cell 13 = .ok (.ireturn, 1) := by decide +kernel
theorem dX5_cell_14 : decode cX5_cell 14 = .ok (.iload_n 2, 1) := by decide +kernel
theorem dX5_cell_15 : decode cX5_cell 15 = .ok (.tableswitch 67 0 2 #[25, 35, 58], 25) := by decide +kernel
theorem dX5_cell_40 : decode cX5_cell 40 = .ok (.aload_n 0, 1) := by decide +kernel
theorem dX5_cell_41 : decode cX5_cell 41 = .ok (.getfield 33, 3) := by decide +kernel
theorem dX5_cell_44 : decode cX5_cell 44 = .ok (.getfield 167, 3) := by decide +kernel
theorem dX5_cell_47 : decode cX5_cell 47 = .ok (.iload_n 1, 1) := by decide +kernel
theorem dX5_cell_48 : decode cX5_cell 48 = .ok (.iaload, 1) := by decide +kernel
theorem dX5_cell_49 : decode cX5_cell 49 = .ok (.ireturn, 1) := by decide +kernel
theorem dX5_cell_50 : decode cX5_cell 50 = .ok (.aload_n 0, 1) := by decide +kernel
theorem dX5_cell_51 : decode cX5_cell 51 = .ok (.getfield 33, 3) := by decide +kernel
theorem dX5_cell_54 : decode cX5_cell 54 = .ok (.iload_n 1, 1) := by decide +kernel
theorem dX5_cell_55 : decode cX5_cell 55 = .ok (.aload_n 0, 1) := by decide +kernel
theorem dX5_cell_56 : decode cX5_cell 56 = .ok (.getfield 33, 3) := by decide +kernel
theorem dX5_cell_59 : decode cX5_cell 59 = .ok (.aload_n 0, 1) := by decide +kernel
theorem dX5_cell_60 : decode cX5_cell 60 = .ok (.getfield 33, 3) := by decide +kernel
theorem dX5_cell_63 : decode cX5_cell 63 = .ok (.getfield 137, 3) := by decide +kernel
theorem dX5_cell_66 : decode cX5_cell 66 = .ok (.invokevirtual 185, 3) := by decide +kernel
theorem dX5_cell_69 : decode cX5_cell 69 = .ok (.invokevirtual 188, 3) := by decide +kernel
theorem dX5_cell_72 : decode cX5_cell 72 = .ok (.ireturn, 1) := by decide +kernel
theorem dX5_cell_73 : decode cX5_cell 73 = .ok (.aload_n 0, 1) := by decide +kernel
theorem dX5_cell_74 : decode cX5_cell 74 = .ok (.getfield 33, 3) := by decide +kernel
theorem dX5_cell_77 : decode cX5_cell 77 = .ok (.iload_n 1, 1) := by decide +kernel
theorem dX5_cell_78 : decode cX5_cell 78 = .ok (.invokevirtual 192, 3) := by decide +kernel
theorem dX5_cell_81 : decode cX5_cell 81 = .ok (.ireturn, 1) := by decide +kernel
theorem dX5_cell_82 : decode cX5_cell 82 = .ok (.ldc 64, 2) := by decide +kernel
theorem dX5_cell_84 : decode cX5_cell 84 = .ok (.ireturn, 1) := by decide +kernel
theorem dX5_ahead_0 : decode cX5_ahead 0 = .ok (.aload_n 0, 1) := by decide +kernel
theorem dX5_ahead_1 : decode cX5_ahead 1 = .ok (.getfield 33, 3) := by decide +kernel
theorem dX5_ahead_4 : decode cX5_ahead 4 = .ok (.iload_n 1, 1) := by decide +kernel
theorem dX5_ahead_5 : decode cX5_ahead 5 = .ok (.invokevirtual 150, 3) := by decide +kernel
theorem dX5_ahead_8 : decode cX5_ahead 8 = .ok (.ifCond .eq 22, 3) := by decide +kernel
theorem dX5_ahead_11 : decode cX5_ahead 11 = .ok (.iload_n 2, 1) := by decide +kernel
theorem dX5_ahead_12 : decode cX5_ahead 12 = .ok (.iconst 0, 1) := by decide +kernel
theorem dX5_ahead_13 : decode cX5_ahead 13 = .ok (.bipush 60, 2) := by decide +kernel
theorem dX5_ahead_15 : decode cX5_ahead 15 = .ok (.invokestatic 98, 3) := by decide +kernel
theorem dX5_ahead_18 : decode cX5_ahead 18 = .ok (.ifCond .eq 12, 3) := by decide +kernel
theorem dX5_ahead_21 : decode cX5_ahead 21 = .ok (.iload_n 3, 1) := by decide +kernel
theorem dX5_ahead_22 : decode cX5_ahead 22 = .ok (.iconst 0, 1) := by decide +kernel
theorem dX5_ahead_23 : decode cX5_ahead 23 = .ok (.iconst 1, 1) := by decide +kernel
theorem dX5_ahead_24 : decode cX5_ahead 24 = .ok (.invokestatic 98, 3) := by decide +kernel
theorem dX5_ahead_27 : decode cX5_ahead 27 = .ok (.ifCond .ne 6, 3) := by decide +kernel
theorem dX5_ahead_30 : decode cX5_ahead 30 = .ok (.ldc 64, 2) := by decide +kernel
theorem dX5_ahead_32 : decode cX5_ahead 32 = .ok (.ireturn, 1) := by decide +kernel
theorem dX5_ahead_33 : decode cX5_ahead 33 = .ok (.aload_n 0, 1) := by decide +kernel
theorem dX5_ahead_34 : decode cX5_ahead 34 = .ok (.getfield 33, 3) := by decide +kernel
theorem dX5_ahead_37 : decode cX5_ahead 37 = .ok (.iload_n 1, 1) := by decide +kernel
theorem dX5_ahead_38 : decode cX5_ahead 38 = .ok (.iload_n 2, 1) := by decide +kernel
theorem dX5_ahead_39 : decode cX5_ahead 39 = .ok (.invokevirtual 195, 3) := by decide +kernel
theorem dX5_ahead_42 : decode cX5_ahead 42 = .ok (.istore 4, 2) := by decide +kernel
theorem dX5_ahead_44 : decode cX5_ahead 44 = .ok (.iload_n 3, 1) := by decide +kernel
theorem dX5_ahead_45 : decode cX5_ahead 45 = .ok (.ifCond .ne 11, 3) := by decide +kernel
theorem dX5_ahead_48 : decode cX5_ahead 48 = .ok (.iload 4, 2) := by decide +kernel
theorem dX5_ahead_50 : decode cX5_ahead 50 = .ok (.invokestatic 176, 3) := by decide +kernel
theorem dX5_ahead_53 : decode cX5_ahead 53 = .ok (.goto 8, 3) := by decide +kernel
theorem dX5_ahead_56 : decode cX5_ahead 56 = .ok (.iload 4, 2) := by decide +kernel
theorem dX5_ahead_58 : decode cX5_ahead 58 = .ok (.invokestatic 173, 3) := by decide +kernel
theorem dX5_ahead_61 : decode cX5_ahead 61 = .ok (.ireturn, 1) := by decide +kernel
theorem dX5_quarrel_0 : decode cX5_quarrel 0 = .ok (.aload_n 0, 1) := by decide +kernel
theorem dX5_quarrel_1 : decode cX5_quarrel 1 = .ok (.invokevirtual 133, 3) := by decide +kernel
theorem dX5_quarrel_4 : decode cX5_quarrel 4 = .ok (.ifCond .ne 6, 3) := by decide +kernel
theorem dX5_quarrel_7 : decode cX5_quarrel 7 = .ok (.ldc 136, 2) := by decide +kernel
theorem dX5_quarrel_9 : decode cX5_quarrel 9 = .ok (.ireturn, 1) := by decide +kernel
theorem dX5_quarrel_10 : decode cX5_quarrel 10 = .ok (.iload_n 1, 1) := by decide +kernel
theorem dX5_quarrel_11 : decode cX5_quarrel 11 = .ok (.iconst 0, 1) := by decide +kernel
theorem dX5_quarrel_12 : decode cX5_quarrel 12 = .ok (.bipush 60, 2) := by decide +kernel
theorem dX5_quarrel_14 : decode cX5_quarrel 14 = .ok (.invokestatic 98, 3) := by decide +kernel
theorem dX5_quarrel_17 : decode cX5_quarrel 17 = .ok (.ifCond .ne 6, 3) := by decide +kernel
theorem dX5_quarrel_20 : decode cX5_quarrel 20 = .ok (.ldc 64, 2) := by decide +kernel
theorem dX5_quarrel_22 : decode cX5_quarrel 22 = .ok (.ireturn, 1) := by decide +kernel
theorem dX5_quarrel_23 : decode cX5_quarrel 23 = .ok (.aload_n 0, 1) := by decide +kernel
theorem dX5_quarrel_24 : decode cX5_quarrel 24 = .ok (.getfield 33, 3) := by decide +kernel
theorem dX5_quarrel_27 : decode cX5_quarrel 27 = .ok (.iload_n 1, 1) := by decide +kernel
theorem dX5_quarrel_28 : decode cX5_quarrel 28 = .ok (.invokevirtual 198, 3) := by decide +kernel
theorem dX5_quarrel_31 : decode cX5_quarrel 31 = .ok (.ireturn, 1) := by decide +kernel
theorem dX5_over_0 : decode cX5_over 0 = .ok (.aload_n 0, 1) := by decide +kernel
theorem dX5_over_1 : decode cX5_over 1 = .ok (.getfield 33, 3) := by decide +kernel
theorem dX5_over_4 : decode cX5_over 4 = .ok (.iload_n 1, 1) := by decide +kernel
theorem dX5_over_5 : decode cX5_over 5 = .ok (.invokevirtual 150, 3) := by decide +kernel
theorem dX5_over_8 : decode cX5_over 8 = .ok (.ifCond .ne 6, 3) := by decide +kernel
theorem dX5_over_11 : decode cX5_over 11 = .ok (.ldc 64, 2) := by decide +kernel
theorem dX5_over_13 : decode cX5_over 13 = .ok (.ireturn, 1) := by decide +kernel
theorem dX5_over_14 : decode cX5_over 14 = .ok (.aload_n 0, 1) := by decide +kernel
theorem dX5_over_15 : decode cX5_over 15 = .ok (.getfield 33, 3) := by decide +kernel
theorem dX5_over_18 : decode cX5_over 18 = .ok (.iload_n 1, 1) := by decide +kernel
theorem dX5_over_19 : decode cX5_over 19 = .ok (.bipush 60, 2) := by decide +kernel
theorem dX5_over_21 : decode cX5_over 21 = .ok (.invokevirtual 201, 3) := by decide +kernel
theorem dX5_over_24 : decode cX5_over 24 = .ok (.ireturn, 1) := by decide +kernel
theorem dX5_kept_0 : decode cX5_kept 0 = .ok (.aload_n 0, 1) := by decide +kernel
theorem dX5_kept_1 : decode cX5_kept 1 = .ok (.invokevirtual 133, 3) := by decide +kernel
theorem dX5_kept_4 : decode cX5_kept 4 = .ok (.ifCond .ne 6, 3) := by decide +kernel
theorem dX5_kept_7 : decode cX5_kept 7 = .ok (.ldc 136, 2) := by decide +kernel
theorem dX5_kept_9 : decode cX5_kept 9 = .ok (.ireturn, 1) := by decide +kernel
theorem dX5_kept_10 : decode cX5_kept 10 = .ok (.iconst 0, 1) := by decide +kernel
theorem dX5_kept_11 : decode cX5_kept 11 = .ok (.istore_n 1, 1) := by decide +kernel
theorem dX5_kept_12 : decode cX5_kept 12 = .ok (.iconst 0, 1) := by decide +kernel
theorem dX5_kept_13 : decode cX5_kept 13 = .ok (.istore_n 2, 1) := by decide +kernel
theorem dX5_kept_14 : decode cX5_kept 14 = .ok (.iload_n 2, 1) := by decide +kernel
theorem dX5_kept_15 : decode cX5_kept 15 = .ok (.aload_n 0, 1) := by decide +kernel
theorem dX5_kept_16 : decode cX5_kept 16 = .ok (.getfield 33, 3) := by decide +kernel
theorem dX5_kept_19 : decode cX5_kept 19 = .ok (.getfield 204, 3) := by decide +kernel
theorem dX5_kept_22 : decode cX5_kept 22 = .ok (.if_icmp .ge 31, 3) := by decide +kernel
theorem dX5_kept_25 : decode cX5_kept 25 = .ok (.aload_n 0, 1) := by decide +kernel
theorem dX5_kept_26 : decode cX5_kept 26 = .ok (.getfield 33, 3) := by decide +kernel
theorem dX5_kept_29 : decode cX5_kept 29 = .ok (.iload_n 2, 1) := by decide +kernel
theorem dX5_kept_30 : decode cX5_kept 30 = .ok (.bipush 60, 2) := by decide +kernel
theorem dX5_kept_32 : decode cX5_kept 32 = .ok (.invokevirtual 195, 3) := by decide +kernel
theorem dX5_kept_35 : decode cX5_kept 35 = .ok (.invokestatic 179, 3) := by decide +kernel
theorem dX5_kept_38 : decode cX5_kept 38 = .ok (.ifCond .ne 9, 3) := by decide +kernel
theorem dX5_kept_41 : decode cX5_kept 41 = .ok (.iload_n 1, 1) := by decide +kernel
theorem dX5_kept_42 : decode cX5_kept 42 = .ok (.iconst 1, 1) := by decide +kernel
theorem dX5_kept_43 : decode cX5_kept 43 = .ok (.iload_n 2, 1) := by decide +kernel
theorem dX5_kept_44 : decode cX5_kept 44 = .ok (.ishl, 1) := by decide +kernel
theorem dX5_kept_45 : decode cX5_kept 45 = .ok (.ior, 1) := by decide +kernel
theorem dX5_kept_46 : decode cX5_kept 46 = .ok (.istore_n 1, 1) := by decide +kernel
theorem dX5_kept_47 : decode cX5_kept 47 = .ok (.iinc 2 1, 3) := by decide +kernel
theorem dX5_kept_50 : decode cX5_kept 50 = .ok (.goto (-36), 3) := by decide +kernel
theorem dX5_kept_53 : decode cX5_kept 53 = .ok (.iload_n 1, 1) := by decide +kernel
theorem dX5_kept_54 : decode cX5_kept 54 = .ok (.ireturn, 1) := by decide +kernel
theorem dX5_calm_0 : decode cX5_calm 0 = .ok (.aload_n 0, 1) := by decide +kernel
theorem dX5_calm_1 : decode cX5_calm 1 = .ok (.invokevirtual 133, 3) := by decide +kernel
theorem dX5_calm_4 : decode cX5_calm 4 = .ok (.ifCond .ne 6, 3) := by decide +kernel
theorem dX5_calm_7 : decode cX5_calm 7 = .ok (.ldc 136, 2) := by decide +kernel
theorem dX5_calm_9 : decode cX5_calm 9 = .ok (.ireturn, 1) := by decide +kernel
theorem dX5_calm_10 : decode cX5_calm 10 = .ok (.iload_n 1, 1) := by decide +kernel
theorem dX5_calm_11 : decode cX5_calm 11 = .ok (.iconst 1, 1) := by decide +kernel
theorem dX5_calm_12 : decode cX5_calm 12 = .ok (.bipush 30, 2) := by decide +kernel
theorem dX5_calm_14 : decode cX5_calm 14 = .ok (.invokestatic 98, 3) := by decide +kernel
theorem dX5_calm_17 : decode cX5_calm 17 = .ok (.ifCond .eq 12, 3) := by decide +kernel
theorem dX5_calm_20 : decode cX5_calm 20 = .ok (.iload_n 2, 1) := by decide +kernel
theorem dX5_calm_21 : decode cX5_calm 21 = .ok (.iconst 0, 1) := by decide +kernel
theorem dX5_calm_22 : decode cX5_calm 22 = .ok (.iconst 1, 1) := by decide +kernel
theorem dX5_calm_23 : decode cX5_calm 23 = .ok (.invokestatic 98, 3) := by decide +kernel
theorem dX5_calm_26 : decode cX5_calm 26 = .ok (.ifCond .ne 6, 3) := by decide +kernel
theorem dX5_calm_29 : decode cX5_calm 29 = .ok (.ldc 64, 2) := by decide +kernel
theorem dX5_calm_31 : decode cX5_calm 31 = .ok (.ireturn, 1) := by decide +kernel
theorem dX5_calm_32 : decode cX5_calm 32 = .ok (.aload_n 0, 1) := by decide +kernel
theorem dX5_calm_33 : decode cX5_calm 33 = .ok (.getfield 37, 3) := by decide +kernel
theorem dX5_calm_36 : decode cX5_calm 36 = .ok (.aload_n 0, 1) := by decide +kernel
theorem dX5_calm_37 : decode cX5_calm 37 = .ok (.getfield 33, 3) := by decide +kernel
theorem dX5_calm_40 : decode cX5_calm 40 = .ok (.invokevirtual 120, 3) := by decide +kernel
theorem dX5_calm_43 : decode cX5_calm 43 = .ok (.iconst 0, 1) := by decide +kernel
theorem dX5_calm_44 : decode cX5_calm 44 = .ok (.istore_n 3, 1) := by decide +kernel
theorem dX5_calm_45 : decode cX5_calm 45 = .ok (.iconst 0, 1) := by decide +kernel
theorem dX5_calm_46 : decode cX5_calm 46 = .ok (.istore 4, 2) := by decide +kernel
theorem dX5_calm_48 : decode cX5_calm 48 = .ok (.iconst 0, 1) := by decide +kernel
theorem dX5_calm_49 : decode cX5_calm 49 = .ok (.istore 5, 2) := by decide +kernel
theorem dX5_calm_51 : decode cX5_calm 51 = .ok (.iload 5, 2) := by decide +kernel
theorem dX5_calm_53 : decode cX5_calm 53 = .ok (.aload_n 0, 1) := by decide +kernel
theorem dX5_calm_54 : decode cX5_calm 54 = .ok (.getfield 33, 3) := by decide +kernel
theorem dX5_calm_57 : decode cX5_calm 57 = .ok (.getfield 127, 3) := by decide +kernel
theorem dX5_calm_60 : decode cX5_calm 60 = .ok (.if_icmp .ge 69, 3) := by decide +kernel
theorem dX5_calm_63 : decode cX5_calm 63 = .ok (.aload_n 0, 1) := by decide +kernel
theorem dX5_calm_64 : decode cX5_calm 64 = .ok (.getfield 37, 3) := by decide +kernel
theorem dX5_calm_67 : decode cX5_calm 67 = .ok (.getfield 167, 3) := by decide +kernel
theorem dX5_calm_70 : decode cX5_calm 70 = .ok (.iload 5, 2) := by decide +kernel
theorem dX5_calm_72 : decode cX5_calm 72 = .ok (.iconst 0, 1) := by decide +kernel
theorem dX5_calm_73 : decode cX5_calm 73 = .ok (.iastore, 1) := by decide +kernel
theorem dX5_calm_74 : decode cX5_calm 74 = .ok (.aload_n 0, 1) := by decide +kernel
theorem dX5_calm_75 : decode cX5_calm 75 = .ok (.getfield 37, 3) := by decide +kernel
theorem dX5_calm_78 : decode cX5_calm 78 = .ok (.iload_n 1, 1) := by decide +kernel
theorem dX5_calm_79 : decode cX5_calm 79 = .ok (.invokevirtual 198, 3) := by decide +kernel
theorem dX5_calm_82 : decode cX5_calm 82 = .ok (.istore 6, 2) := by decide +kernel
theorem dX5_calm_84 : decode cX5_calm 84 = .ok (.aload_n 0, 1) := by decide +kernel
theorem dX5_calm_85 : decode cX5_calm 85 = .ok (.getfield 37, 3) := by decide +kernel
theorem dX5_calm_88 : decode cX5_calm 88 = .ok (.getfield 167, 3) := by decide +kernel
theorem dX5_calm_91 : decode cX5_calm 91 = .ok (.iload 5, 2) := by decide +kernel
theorem dX5_calm_93 : decode cX5_calm 93 = .ok (.aload_n 0, 1) := by decide +kernel
theorem dX5_calm_94 : decode cX5_calm 94 = .ok (.getfield 33, 3) := by decide +kernel
theorem dX5_calm_97 : decode cX5_calm 97 = .ok (.getfield 167, 3) := by decide +kernel
theorem dX5_calm_100 : decode cX5_calm 100 = .ok (.iload 5, 2) := by decide +kernel
theorem dX5_calm_102 : decode cX5_calm 102 = .ok (.iaload, 1) := by decide +kernel
theorem dX5_calm_103 : decode cX5_calm 103 = .ok (.iastore, 1) := by decide +kernel
theorem dX5_calm_104 : decode cX5_calm 104 = .ok (.iload 5, 2) := by decide +kernel
theorem dX5_calm_106 : decode cX5_calm 106 = .ok (.ifCond .eq 10, 3) := by decide +kernel
theorem dX5_calm_109 : decode cX5_calm 109 = .ok (.iload 6, 2) := by decide +kernel
theorem dX5_calm_111 : decode cX5_calm 111 = .ok (.iload 4, 2) := by decide +kernel
theorem dX5_calm_113 : decode cX5_calm 113 = .ok (.if_icmp .ge 10, 3) := by decide +kernel
theorem dX5_calm_116 : decode cX5_calm 116 = .ok (.iload 6, 2) := by decide +kernel
theorem dX5_calm_118 : decode cX5_calm 118 = .ok (.istore 4, 2) := by decide +kernel
theorem dX5_calm_120 : decode cX5_calm 120 = .ok (.iload 5, 2) := by decide +kernel
theorem dX5_calm_122 : decode cX5_calm 122 = .ok (.istore_n 3, 1) := by decide +kernel
theorem dX5_calm_123 : decode cX5_calm 123 = .ok (.iinc 5 1, 3) := by decide +kernel
theorem dX5_calm_126 : decode cX5_calm 126 = .ok (.goto (-75), 3) := by decide +kernel
theorem dX5_calm_129 : decode cX5_calm 129 = .ok (.iload_n 2, 1) := by decide +kernel
theorem dX5_calm_130 : decode cX5_calm 130 = .ok (.ifCond .ne 7, 3) := by decide +kernel
theorem dX5_calm_133 : decode cX5_calm 133 = .ok (.iload_n 3, 1) := by decide +kernel
theorem dX5_calm_134 : decode cX5_calm 134 = .ok (.goto 5, 3) := by decide +kernel
theorem dX5_calm_137 : decode cX5_calm 137 = .ok (.iload 4, 2) := by decide +kernel
theorem dX5_calm_139 : decode cX5_calm 139 = .ok (.ireturn, 1) := by decide +kernel
theorem dX5_swift_0 : decode cX5_swift 0 = .ok (.aload_n 0, 1) := by decide +kernel
theorem dX5_swift_1 : decode cX5_swift 1 = .ok (.invokevirtual 133, 3) := by decide +kernel
theorem dX5_swift_4 : decode cX5_swift 4 = .ok (.ifCond .ne 6, 3) := by decide +kernel
theorem dX5_swift_7 : decode cX5_swift 7 = .ok (.ldc 136, 2) := by decide +kernel
theorem dX5_swift_9 : decode cX5_swift 9 = .ok (.ireturn, 1) := by decide +kernel
theorem dX5_swift_10 : decode cX5_swift 10 = .ok (.iload_n 1, 1) := by decide +kernel
theorem dX5_swift_11 : decode cX5_swift 11 = .ok (.iconst 1, 1) := by decide +kernel
theorem dX5_swift_12 : decode cX5_swift 12 = .ok (.bipush 30, 2) := by decide +kernel
theorem dX5_swift_14 : decode cX5_swift 14 = .ok (.invokestatic 98, 3) := by decide +kernel
theorem dX5_swift_17 : decode cX5_swift 17 = .ok (.ifCond .eq 12, 3) := by decide +kernel
theorem dX5_swift_20 : decode cX5_swift 20 = .ok (.iload_n 2, 1) := by decide +kernel
theorem dX5_swift_21 : decode cX5_swift 21 = .ok (.iconst 0, 1) := by decide +kernel
theorem dX5_swift_22 : decode cX5_swift 22 = .ok (.iconst 1, 1) := by decide +kernel
theorem dX5_swift_23 : decode cX5_swift 23 = .ok (.invokestatic 98, 3) := by decide +kernel
theorem dX5_swift_26 : decode cX5_swift 26 = .ok (.ifCond .ne 6, 3) := by decide +kernel
theorem dX5_swift_29 : decode cX5_swift 29 = .ok (.ldc 64, 2) := by decide +kernel
theorem dX5_swift_31 : decode cX5_swift 31 = .ok (.ireturn, 1) := by decide +kernel
theorem dX5_swift_32 : decode cX5_swift 32 = .ok (.aload_n 0, 1) := by decide +kernel
theorem dX5_swift_33 : decode cX5_swift 33 = .ok (.iload_n 1, 1) := by decide +kernel
theorem dX5_swift_34 : decode cX5_swift 34 = .ok (.invokevirtual 207, 3) := by decide +kernel
theorem dX5_swift_37 : decode cX5_swift 37 = .ok (.istore_n 3, 1) := by decide +kernel
theorem dX5_swift_38 : decode cX5_swift 38 = .ok (.iload_n 3, 1) := by decide +kernel
theorem dX5_swift_39 : decode cX5_swift 39 = .ok (.ldc 210, 2) := by decide +kernel
theorem dX5_swift_41 : decode cX5_swift 41 = .ok (.if_icmp .ne 6, 3) := by decide +kernel
theorem dX5_swift_44 : decode cX5_swift 44 = .ok (.ldc 210, 2) := by decide +kernel
theorem dX5_swift_46 : decode cX5_swift 46 = .ok (.ireturn, 1) := by decide +kernel
theorem dX5_swift_47 : decode cX5_swift 47 = .ok (.iload_n 2, 1) := by decide +kernel
theorem dX5_swift_48 : decode cX5_swift 48 = .ok (.ifCond .ne 10, 3) := by decide +kernel
theorem dX5_swift_51 : decode cX5_swift 51 = .ok (.iload_n 3, 1) := by decide +kernel
theorem dX5_swift_52 : decode cX5_swift 52 = .ok (.invokestatic 211, 3) := by decide +kernel
theorem dX5_swift_55 : decode cX5_swift 55 = .ok (.goto 4, 3) := by decide +kernel
theorem dX5_swift_58 : decode cX5_swift 58 = .ok (.iload_n 3, 1) := by decide +kernel
theorem dX5_swift_59 : decode cX5_swift 59 = .ok (.ireturn, 1) := by decide +kernel
theorem dX5_stir_0 : decode cX5_stir 0 = .ok (.aload_n 0, 1) := by decide +kernel
theorem dX5_stir_1 : decode cX5_stir 1 = .ok (.getfield 33, 3) := by decide +kernel
theorem dX5_stir_4 : decode cX5_stir 4 = .ok (.iload_n 1, 1) := by decide +kernel
theorem dX5_stir_5 : decode cX5_stir 5 = .ok (.invokevirtual 150, 3) := by decide +kernel
theorem dX5_stir_8 : decode cX5_stir 8 = .ok (.ifCond .eq 24, 3) := by decide +kernel
theorem dX5_stir_11 : decode cX5_stir 11 = .ok (.aload_n 0, 1) := by decide +kernel
theorem dX5_stir_12 : decode cX5_stir 12 = .ok (.getfield 33, 3) := by decide +kernel
theorem dX5_stir_15 : decode cX5_stir 15 = .ok (.iload_n 2, 1) := by decide +kernel
theorem dX5_stir_16 : decode cX5_stir 16 = .ok (.invokevirtual 153, 3) := by decide +kernel
theorem dX5_stir_19 : decode cX5_stir 19 = .ok (.ifCond .eq 13, 3) := by decide +kernel
theorem dX5_stir_22 : decode cX5_stir 22 = .ok (.iload_n 3, 1) := by decide +kernel
theorem dX5_stir_23 : decode cX5_stir 23 = .ok (.iconst 1, 1) := by decide +kernel
theorem dX5_stir_24 : decode cX5_stir 24 = .ok (.bipush 30, 2) := by decide +kernel
theorem dX5_stir_26 : decode cX5_stir 26 = .ok (.invokestatic 98, 3) := by decide +kernel
theorem dX5_stir_29 : decode cX5_stir 29 = .ok (.ifCond .ne 6, 3) := by decide +kernel
theorem dX5_stir_32 : decode cX5_stir 32 = .ok (.ldc 64, 2) := by decide +kernel
theorem dX5_stir_34 : decode cX5_stir 34 = .ok (.ireturn, 1) := by decide +kernel
theorem dX5_stir_35 : decode cX5_stir 35 = .ok (.aload_n 0, 1) := by decide +kernel
theorem dX5_stir_36 : decode cX5_stir 36 = .ok (.getfield 37, 3) := by decide +kernel
theorem dX5_stir_39 : decode cX5_stir 39 = .ok (.aload_n 0, 1) := by decide +kernel
theorem dX5_stir_40 : decode cX5_stir 40 = .ok (.getfield 33, 3) := by decide +kernel
theorem dX5_stir_43 : decode cX5_stir 43 = .ok (.invokevirtual 120, 3) := by decide +kernel
theorem dX5_stir_46 : decode cX5_stir 46 = .ok (.iconst 0, 1) := by decide +kernel
theorem dX5_stir_47 : decode cX5_stir 47 = .ok (.istore 4, 2) := by decide +kernel
theorem dX5_stir_49 : decode cX5_stir 49 = .ok (.iload 4, 2) := by decide +kernel
theorem dX5_stir_51 : decode cX5_stir 51 = .ok (.iconst 3, 1) := by decide +kernel
theorem dX5_stir_52 : decode cX5_stir 52 = .ok (.if_icmp .gt 38, 3) := by decide +kernel
theorem dX5_stir_55 : decode cX5_stir 55 = .ok (.aload_n 0, 1) := by decide +kernel
theorem dX5_stir_56 : decode cX5_stir 56 = .ok (.getfield 37, 3) := by decide +kernel
theorem dX5_stir_59 : decode cX5_stir 59 = .ok (.getfield 167, 3) := by decide +kernel
theorem dX5_stir_62 : decode cX5_stir 62 = .ok (.iload_n 2, 1) := by decide +kernel
theorem dX5_stir_63 : decode cX5_stir 63 = .ok (.iload 4, 2) := by decide +kernel
theorem dX5_stir_65 : decode cX5_stir 65 = .ok (.iastore, 1) := by decide +kernel
theorem dX5_stir_66 : decode cX5_stir 66 = .ok (.aload_n 0, 1) := by decide +kernel
theorem dX5_stir_67 : decode cX5_stir 67 = .ok (.getfield 37, 3) := by decide +kernel
theorem dX5_stir_70 : decode cX5_stir 70 = .ok (.iload_n 1, 1) := by decide +kernel
theorem dX5_stir_71 : decode cX5_stir 71 = .ok (.iload_n 3, 1) := by decide +kernel
theorem dX5_stir_72 : decode cX5_stir 72 = .ok (.invokevirtual 195, 3) := by decide +kernel
theorem dX5_stir_75 : decode cX5_stir 75 = .ok (.invokestatic 179, 3) := by decide +kernel
theorem dX5_stir_78 : decode cX5_stir 78 = .ok (.ifCond .eq 6, 3) := by decide +kernel
theorem dX5_stir_81 : decode cX5_stir 81 = .ok (.iload 4, 2) := by decide +kernel
theorem dX5_stir_83 : decode cX5_stir 83 = .ok (.ireturn, 1) := by decide +kernel
theorem dX5_stir_84 : decode cX5_stir 84 = .ok (.iinc 4 1, 3) := by decide +kernel
theorem dX5_stir_87 : decode cX5_stir 87 = .ok (.goto (-38), 3) := by decide +kernel
theorem dX5_stir_90 : decode cX5_stir 90 = .ok (.ldc 210, 2) := by decide +kernel
theorem dX5_stir_92 : decode cX5_stir 92 = .ok (.ireturn, 1) := by decide +kernel
theorem dX5_share_0 : decode cX5_share 0 = .ok (.aload_n 0, 1) := by decide +kernel
theorem dX5_share_1 : decode cX5_share 1 = .ok (.getfield 33, 3) := by decide +kernel
theorem dX5_share_4 : decode cX5_share 4 = .ok (.iload_n 1, 1) := by decide +kernel
theorem dX5_share_5 : decode cX5_share 5 = .ok (.invokevirtual 150, 3) := by decide +kernel
theorem dX5_share_8 : decode cX5_share 8 = .ok (.ifCond .eq 14, 3) := by decide +kernel
theorem dX5_share_11 : decode cX5_share 11 = .ok (.iload_n 2, 1) := by decide +kernel
theorem dX5_share_12 : decode cX5_share 12 = .ok (.iconst 0, 1) := by decide +kernel
theorem dX5_share_13 : decode cX5_share 13 = .ok (.sipush 999, 3) := by decide +kernel
theorem dX5_share_16 : decode cX5_share 16 = .ok (.invokestatic 98, 3) := by decide +kernel
theorem dX5_share_19 : decode cX5_share 19 = .ok (.ifCond .ne 6, 3) := by decide +kernel
theorem dX5_share_22 : decode cX5_share 22 = .ok (.ldc 64, 2) := by decide +kernel
theorem dX5_share_24 : decode cX5_share 24 = .ok (.ireturn, 1) := by decide +kernel
theorem dX5_share_25 : decode cX5_share 25 = .ok (.aload_n 0, 1) := by decide +kernel
theorem dX5_share_26 : decode cX5_share 26 = .ok (.getfield 33, 3) := by decide +kernel
theorem dX5_share_29 : decode cX5_share 29 = .ok (.iconst 0, 1) := by decide +kernel
theorem dX5_share_30 : decode cX5_share 30 = .ok (.invokevirtual 198, 3) := by decide +kernel
theorem dX5_share_33 : decode cX5_share 33 = .ok (.istore_n 3, 1) := by decide +kernel
theorem dX5_share_34 : decode cX5_share 34 = .ok (.iload_n 3, 1) := by decide +kernel
theorem dX5_share_35 : decode cX5_share 35 = .ok (.ifCond .eq 14, 3) := by decide +kernel
theorem dX5_share_38 : decode cX5_share 38 = .ok (.aload_n 0, 1) := by decide +kernel
theorem dX5_share_39 : decode cX5_share 39 = .ok (.getfield 33, 3) := by decide +kernel
theorem dX5_share_42 : decode cX5_share 42 = .ok (.iload_n 1, 1) := by decide +kernel
theorem dX5_share_43 : decode cX5_share 43 = .ok (.invokevirtual 156, 3) := by decide +kernel
theorem dX5_share_46 : decode cX5_share 46 = .ok (.ifCond .ne 5, 3) := by decide +kernel
theorem dX5_share_49 : decode cX5_share 49 = .ok (.iconst 0, 1) := by decide +kernel
theorem dX5_share_50 : decode cX5_share 50 = .ok (.ireturn, 1) := by decide +kernel
theorem dX5_share_51 : decode cX5_share 51 = .ok (.iload_n 2, 1) := by decide +kernel
theorem dX5_share_52 : decode cX5_share 52 = .ok (.istore 4, 2) := by decide +kernel
theorem dX5_share_54 : decode cX5_share 54 = .ok (.iconst 0, 1) := by decide +kernel
theorem dX5_share_55 : decode cX5_share 55 = .ok (.istore 5, 2) := by decide +kernel
theorem dX5_share_57 : decode cX5_share 57 = .ok (.iconst 0, 1) := by decide +kernel
theorem dX5_share_58 : decode cX5_share 58 = .ok (.istore 6, 2) := by decide +kernel
theorem dX5_share_60 : decode cX5_share 60 = .ok (.iload 6, 2) := by decide +kernel
theorem dX5_share_62 : decode cX5_share 62 = .ok (.aload_n 0, 1) := by decide +kernel
theorem dX5_share_63 : decode cX5_share 63 = .ok (.getfield 33, 3) := by decide +kernel
theorem dX5_share_66 : decode cX5_share 66 = .ok (.getfield 204, 3) := by decide +kernel
theorem dX5_share_69 : decode cX5_share 69 = .ok (.if_icmp .ge 48, 3) := by decide +kernel
theorem dX5_share_72 : decode cX5_share 72 = .ok (.iload 4, 2) := by decide +kernel
theorem dX5_share_74 : decode cX5_share 74 = .ok (.iload_n 2, 1) := by decide +kernel
theorem dX5_share_75 : decode cX5_share 75 = .ok (.aload_n 0, 1) := by decide +kernel
theorem dX5_share_76 : decode cX5_share 76 = .ok (.getfield 33, 3) := by decide +kernel
theorem dX5_share_79 : decode cX5_share 79 = .ok (.iload 6, 2) := by decide +kernel
theorem dX5_share_81 : decode cX5_share 81 = .ok (.invokevirtual 156, 3) := by decide +kernel
theorem dX5_share_84 : decode cX5_share 84 = .ok (.imul, 1) := by decide +kernel
theorem dX5_share_85 : decode cX5_share 85 = .ok (.iload_n 3, 1) := by decide +kernel
theorem dX5_share_86 : decode cX5_share 86 = .ok (.idiv, 1) := by decide +kernel
theorem dX5_share_87 : decode cX5_share 87 = .ok (.isub, 1) := by decide +kernel
theorem dX5_share_88 : decode cX5_share 88 = .ok (.istore 4, 2) := by decide +kernel
theorem dX5_share_90 : decode cX5_share 90 = .ok (.iload 6, 2) := by decide +kernel
theorem dX5_share_92 : decode cX5_share 92 = .ok (.iload_n 1, 1) := by decide +kernel
theorem dX5_share_93 : decode cX5_share 93 = .ok (.if_icmp .ge 18, 3) := by decide +kernel
theorem dX5_share_96 : decode cX5_share 96 = .ok (.aload_n 0, 1) := by decide +kernel
theorem dX5_share_97 : decode cX5_share 97 = .ok (.getfield 33, 3) := by decide +kernel
theorem dX5_share_100 : decode cX5_share 100 = .ok (.iload 6, 2) := by decide +kernel
theorem dX5_share_102 : decode cX5_share 102 = .ok (.invokevirtual 156, 3) := by decide +kernel
theorem dX5_share_105 : decode cX5_share 105 = .ok (.ifCond .le 6, 3) := by decide +kernel
theorem dX5_share_108 : decode cX5_share 108 = .ok (.iinc 5 1, 3) := by decide +kernel
theorem dX5_share_111 : decode cX5_share 111 = .ok (.iinc 6 1, 3) := by decide +kernel
theorem dX5_share_114 : decode cX5_share 114 = .ok (.goto (-54), 3) := by decide +kernel
theorem dX5_share_117 : decode cX5_share 117 = .ok (.iload_n 2, 1) := by decide +kernel
theorem dX5_share_118 : decode cX5_share 118 = .ok (.aload_n 0, 1) := by decide +kernel
theorem dX5_share_119 : decode cX5_share 119 = .ok (.getfield 33, 3) := by decide +kernel
theorem dX5_share_122 : decode cX5_share 122 = .ok (.iload_n 1, 1) := by decide +kernel
theorem dX5_share_123 : decode cX5_share 123 = .ok (.invokevirtual 156, 3) := by decide +kernel
theorem dX5_share_126 : decode cX5_share 126 = .ok (.imul, 1) := by decide +kernel
theorem dX5_share_127 : decode cX5_share 127 = .ok (.iload_n 3, 1) := by decide +kernel
theorem dX5_share_128 : decode cX5_share 128 = .ok (.idiv, 1) := by decide +kernel
theorem dX5_share_129 : decode cX5_share 129 = .ok (.iload 5, 2) := by decide +kernel
theorem dX5_share_131 : decode cX5_share 131 = .ok (.iload 4, 2) := by decide +kernel
theorem dX5_share_133 : decode cX5_share 133 = .ok (.if_icmp .ge 7, 3) := by decide +kernel
theorem dX5_share_136 : decode cX5_share 136 = .ok (.iconst 1, 1) := by decide +kernel
theorem dX5_share_137 : decode cX5_share 137 = .ok (.goto 4, 3) := by decide +kernel
theorem dX5_share_140 : decode cX5_share 140 = .ok (.iconst 0, 1) := by decide +kernel
theorem dX5_share_141 : decode cX5_share 141 = .ok (.iadd, 1) := by decide +kernel
theorem dX5_share_142 : decode cX5_share 142 = .ok (.ireturn, 1) := by decide +kernel
theorem dX5_fits_0 : decode cX5_fits 0 = .ok (.aload_n 0, 1) := by decide +kernel
theorem dX5_fits_1 : decode cX5_fits 1 = .ok (.getfield 33, 3) := by decide +kernel
theorem dX5_fits_4 : decode cX5_fits 4 = .ok (.iload_n 1, 1) := by decide +kernel
theorem dX5_fits_5 : decode cX5_fits 5 = .ok (.invokevirtual 150, 3) := by decide +kernel
theorem dX5_fits_8 : decode cX5_fits 8 = .ok (.ifCond .eq 31, 3) := by decide +kernel
theorem dX5_fits_11 : decode cX5_fits 11 = .ok (.iload_n 2, 1) := by decide +kernel
theorem dX5_fits_12 : decode cX5_fits 12 = .ok (.invokestatic 57, 3) := by decide +kernel
theorem dX5_fits_15 : decode cX5_fits 15 = .ok (.ifCond .eq 24, 3) := by decide +kernel
theorem dX5_fits_18 : decode cX5_fits 18 = .ok (.iload 4, 2) := by decide +kernel
theorem dX5_fits_20 : decode cX5_fits 20 = .ok (.iconst 1, 1) := by decide +kernel
theorem dX5_fits_21 : decode cX5_fits 21 = .ok (.bipush 12, 2) := by decide +kernel
theorem dX5_fits_23 : decode cX5_fits 23 = .ok (.invokestatic 98, 3) := by decide +kernel
theorem dX5_fits_26 : decode cX5_fits 26 = .ok (.ifCond .eq 13, 3) := by decide +kernel
theorem dX5_fits_29 : decode cX5_fits 29 = .ok (.iload 5, 2) := by decide +kernel
theorem dX5_fits_31 : decode cX5_fits 31 = .ok (.iconst 0, 1) := by decide +kernel
theorem dX5_fits_32 : decode cX5_fits 32 = .ok (.iconst 4, 1) := by decide +kernel
theorem dX5_fits_33 : decode cX5_fits 33 = .ok (.invokestatic 98, 3) := by decide +kernel
theorem dX5_fits_36 : decode cX5_fits 36 = .ok (.ifCond .ne 6, 3) := by decide +kernel
theorem dX5_fits_39 : decode cX5_fits 39 = .ok (.ldc 64, 2) := by decide +kernel
theorem dX5_fits_41 : decode cX5_fits 41 = .ok (.ireturn, 1) := by decide +kernel
theorem dX5_fits_42 : decode cX5_fits 42 = .ok (.aload_n 0, 1) := by decide +kernel
theorem dX5_fits_43 : decode cX5_fits 43 = .ok (.getfield 33, 3) := by decide +kernel
theorem dX5_fits_46 : decode cX5_fits 46 = .ok (.iload_n 1, 1) := by decide +kernel
theorem dX5_fits_47 : decode cX5_fits 47 = .ok (.invokevirtual 156, 3) := by decide +kernel
theorem dX5_fits_50 : decode cX5_fits 50 = .ok (.ifCond .ne 6, 3) := by decide +kernel
theorem dX5_fits_53 : decode cX5_fits 53 = .ok (.ldc 136, 2) := by decide +kernel
theorem dX5_fits_55 : decode cX5_fits 55 = .ok (.ireturn, 1) := by decide +kernel
theorem dX5_fits_56 : decode cX5_fits 56 = .ok (.aload_n 0, 1) := by decide +kernel
theorem dX5_fits_57 : decode cX5_fits 57 = .ok (.getfield 10, 3) := by decide +kernel
theorem dX5_fits_60 : decode cX5_fits 60 = .ok (.iload_n 2, 1) := by decide +kernel
theorem dX5_fits_61 : decode cX5_fits 61 = .ok (.invokevirtual 76, 3) := by decide +kernel
theorem dX5_fits_64 : decode cX5_fits 64 = .ok (.ifCond .eq 9, 3) := by decide +kernel
theorem dX5_fits_67 : decode cX5_fits 67 = .ok (.aload_n 0, 1) := by decide +kernel
theorem dX5_fits_68 : decode cX5_fits 68 = .ok (.iconst 1, 1) := by decide +kernel
theorem dX5_fits_69 : decode cX5_fits 69 = .ok (.invokevirtual 65, 3) := by decide +kernel
theorem dX5_fits_72 : decode cX5_fits 72 = .ok (.ireturn, 1) := by decide +kernel
theorem dX5_fits_73 : decode cX5_fits 73 = .ok (.aload_n 0, 1) := by decide +kernel
theorem dX5_fits_74 : decode cX5_fits 74 = .ok (.getfield 10, 3) := by decide +kernel
theorem dX5_fits_77 : decode cX5_fits 77 = .ok (.iload_n 2, 1) := by decide +kernel
theorem dX5_fits_78 : decode cX5_fits 78 = .ok (.iload_n 3, 1) := by decide +kernel
theorem dX5_fits_79 : decode cX5_fits 79 = .ok (.iload 4, 2) := by decide +kernel
theorem dX5_fits_81 : decode cX5_fits 81 = .ok (.invokevirtual 79, 3) := by decide +kernel
theorem dX5_fits_84 : decode cX5_fits 84 = .ok (.ifCond .ne 9, 3) := by decide +kernel
theorem dX5_fits_87 : decode cX5_fits 87 = .ok (.aload_n 0, 1) := by decide +kernel
theorem dX5_fits_88 : decode cX5_fits 88 = .ok (.iconst 2, 1) := by decide +kernel
theorem dX5_fits_89 : decode cX5_fits 89 = .ok (.invokevirtual 65, 3) := by decide +kernel
theorem dX5_fits_92 : decode cX5_fits 92 = .ok (.ireturn, 1) := by decide +kernel
theorem dX5_fits_93 : decode cX5_fits 93 = .ok (.aload_n 0, 1) := by decide +kernel
theorem dX5_fits_94 : decode cX5_fits 94 = .ok (.getfield 10, 3) := by decide +kernel
theorem dX5_fits_97 : decode cX5_fits 97 = .ok (.getfield 216, 3) := by decide +kernel
theorem dX5_fits_100 : decode cX5_fits 100 = .ok (.iload_n 2, 1) := by decide +kernel
theorem dX5_fits_101 : decode cX5_fits 101 = .ok (.aaload, 1) := by decide +kernel
theorem dX5_fits_102 : decode cX5_fits 102 = .ok (.astore 6, 2) := by decide +kernel
theorem dX5_fits_104 : decode cX5_fits 104 = .ok (.iload 5, 2) := by decide +kernel
theorem dX5_fits_106 : decode cX5_fits 106 = .ok (.tableswitch 90 0 3 #[30, 45, 60, 75], 30) := by decide +kernel
theorem dX5_fits_136 : decode cX5_fits 136 = .ok (.aload_n 0, 1) := by decide +kernel
theorem dX5_fits_137 : decode cX5_fits 137 = .ok (.aload_n 0, 1) := by decide +kernel
theorem dX5_fits_138 : decode cX5_fits 138 = .ok (.iload_n 1, 1) := by decide +kernel
theorem dX5_fits_139 : decode cX5_fits 139 = .ok (.aload 6, 2) := by decide +kernel
theorem dX5_fits_141 : decode cX5_fits 141 = .ok (.iload_n 3, 1) := by decide +kernel
theorem dX5_fits_142 : decode cX5_fits 142 = .ok (.iload 4, 2) := by decide +kernel
theorem dX5_fits_144 : decode cX5_fits 144 = .ok (.invokevirtual 220, 3) := by decide +kernel
theorem dX5_fits_147 : decode cX5_fits 147 = .ok (.invokevirtual 73, 3) := by decide +kernel
theorem dX5_fits_150 : decode cX5_fits 150 = .ok (.ireturn, 1) := by decide +kernel
theorem dX5_fits_151 : decode cX5_fits 151 = .ok (.aload_n 0, 1) := by decide +kernel
theorem dX5_fits_152 : decode cX5_fits 152 = .ok (.aload_n 0, 1) := by decide +kernel
theorem dX5_fits_153 : decode cX5_fits 153 = .ok (.iload_n 1, 1) := by decide +kernel
theorem dX5_fits_154 : decode cX5_fits 154 = .ok (.aload 6, 2) := by decide +kernel
theorem dX5_fits_156 : decode cX5_fits 156 = .ok (.iload_n 3, 1) := by decide +kernel
theorem dX5_fits_157 : decode cX5_fits 157 = .ok (.iload 4, 2) := by decide +kernel
theorem dX5_fits_159 : decode cX5_fits 159 = .ok (.invokevirtual 224, 3) := by decide +kernel
theorem dX5_fits_162 : decode cX5_fits 162 = .ok (.invokevirtual 73, 3) := by decide +kernel
theorem dX5_fits_165 : decode cX5_fits 165 = .ok (.ireturn, 1) := by decide +kernel
theorem dX5_fits_166 : decode cX5_fits 166 = .ok (.aload_n 0, 1) := by decide +kernel
theorem dX5_fits_167 : decode cX5_fits 167 = .ok (.aload_n 0, 1) := by decide +kernel
theorem dX5_fits_168 : decode cX5_fits 168 = .ok (.iload_n 1, 1) := by decide +kernel
theorem dX5_fits_169 : decode cX5_fits 169 = .ok (.aload 6, 2) := by decide +kernel
theorem dX5_fits_171 : decode cX5_fits 171 = .ok (.iload_n 3, 1) := by decide +kernel
theorem dX5_fits_172 : decode cX5_fits 172 = .ok (.iload 4, 2) := by decide +kernel
theorem dX5_fits_174 : decode cX5_fits 174 = .ok (.invokevirtual 227, 3) := by decide +kernel
theorem dX5_fits_177 : decode cX5_fits 177 = .ok (.invokevirtual 73, 3) := by decide +kernel
theorem dX5_fits_180 : decode cX5_fits 180 = .ok (.ireturn, 1) := by decide +kernel
theorem dX5_fits_181 : decode cX5_fits 181 = .ok (.aload_n 0, 1) := by decide +kernel
theorem dX5_fits_182 : decode cX5_fits 182 = .ok (.aload_n 0, 1) := by decide +kernel
theorem dX5_fits_183 : decode cX5_fits 183 = .ok (.iload_n 1, 1) := by decide +kernel
theorem dX5_fits_184 : decode cX5_fits 184 = .ok (.aload 6, 2) := by decide +kernel
theorem dX5_fits_186 : decode cX5_fits 186 = .ok (.iload_n 3, 1) := by decide +kernel
theorem dX5_fits_187 : decode cX5_fits 187 = .ok (.iload 4, 2) := by decide +kernel
theorem dX5_fits_189 : decode cX5_fits 189 = .ok (.invokevirtual 230, 3) := by decide +kernel
theorem dX5_fits_192 : decode cX5_fits 192 = .ok (.invokevirtual 73, 3) := by decide +kernel
theorem dX5_fits_195 : decode cX5_fits 195 = .ok (.ireturn, 1) := by decide +kernel
theorem dX5_fits_196 : decode cX5_fits 196 = .ok (.aload_n 0, 1) := by decide +kernel
theorem dX5_fits_197 : decode cX5_fits 197 = .ok (.aload_n 0, 1) := by decide +kernel
theorem dX5_fits_198 : decode cX5_fits 198 = .ok (.iload_n 1, 1) := by decide +kernel
theorem dX5_fits_199 : decode cX5_fits 199 = .ok (.aload 6, 2) := by decide +kernel
theorem dX5_fits_201 : decode cX5_fits 201 = .ok (.iload_n 3, 1) := by decide +kernel
theorem dX5_fits_202 : decode cX5_fits 202 = .ok (.iload 4, 2) := by decide +kernel
theorem dX5_fits_204 : decode cX5_fits 204 = .ok (.invokevirtual 233, 3) := by decide +kernel
theorem dX5_fits_207 : decode cX5_fits 207 = .ok (.invokevirtual 73, 3) := by decide +kernel
theorem dX5_fits_210 : decode cX5_fits 210 = .ok (.ireturn, 1) := by decide +kernel
theorem dX5_chance_0 : decode cX5_chance 0 = .ok (.aload_n 0, 1) := by decide +kernel
theorem dX5_chance_1 : decode cX5_chance 1 = .ok (.getfield 33, 3) := by decide +kernel
theorem dX5_chance_4 : decode cX5_chance 4 = .ok (.iload_n 1, 1) := by decide +kernel
theorem dX5_chance_5 : decode cX5_chance 5 = .ok (.invokevirtual 150, 3) := by decide +kernel
theorem dX5_chance_8 : decode cX5_chance 8 = .ok (.ifCond .eq 33, 3) := by decide +kernel
theorem dX5_chance_11 : decode cX5_chance 11 = .ok (.iload_n 2, 1) := by decide +kernel
theorem dX5_chance_12 : decode cX5_chance 12 = .ok (.iconst 0, 1) := by decide +kernel
theorem dX5_chance_13 : decode cX5_chance 13 = .ok (.bipush 8, 2) := by decide +kernel
theorem dX5_chance_15 : decode cX5_chance 15 = .ok (.invokestatic 98, 3) := by decide +kernel
theorem dX5_chance_18 : decode cX5_chance 18 = .ok (.ifCond .eq 23, 3) := by decide +kernel
theorem dX5_chance_21 : decode cX5_chance 21 = .ok (.iload_n 3, 1) := by decide +kernel
theorem dX5_chance_22 : decode cX5_chance 22 = .ok (.iconst 0, 1) := by decide +kernel
theorem dX5_chance_23 : decode cX5_chance 23 = .ok (.bipush 10, 2) := by decide +kernel
theorem dX5_chance_25 : decode cX5_chance 25 = .ok (.invokestatic 98, 3) := by decide +kernel
theorem dX5_chance_28 : decode cX5_chance 28 = .ok (.ifCond .eq 13, 3) := by decide +kernel
theorem dX5_chance_31 : decode cX5_chance 31 = .ok (.iload 4, 2) := by decide +kernel
theorem dX5_chance_33 : decode cX5_chance 33 = .ok (.iconst 0, 1) := by decide +kernel
theorem dX5_chance_34 : decode cX5_chance 34 = .ok (.iconst 1, 1) := by decide +kernel
theorem dX5_chance_35 : decode cX5_chance 35 = .ok (.invokestatic 98, 3) := by decide +kernel
theorem dX5_chance_38 : decode cX5_chance 38 = .ok (.ifCond .ne 6, 3) := by decide +kernel
theorem dX5_chance_41 : decode cX5_chance 41 = .ok (.ldc 64, 2) := by decide +kernel
theorem dX5_chance_43 : decode cX5_chance 43 = .ok (.ireturn, 1) := by decide +kernel
theorem dX5_chance_44 : decode cX5_chance 44 = .ok (.iconst 0, 1) := by decide +kernel
theorem dX5_chance_45 : decode cX5_chance 45 = .ok (.istore 5, 2) := by decide +kernel
theorem dX5_chance_47 : decode cX5_chance 47 = .ok (.iconst 0, 1) := by decide +kernel
theorem dX5_chance_48 : decode cX5_chance 48 = .ok (.istore 6, 2) := by decide +kernel
theorem dX5_chance_50 : decode cX5_chance 50 = .ok (.iload 6, 2) := by decide +kernel
theorem dX5_chance_52 : decode cX5_chance 52 = .ok (.iconst 1, 1) := by decide +kernel
theorem dX5_chance_53 : decode cX5_chance 53 = .ok (.iload_n 2, 1) := by decide +kernel
theorem dX5_chance_54 : decode cX5_chance 54 = .ok (.ishl, 1) := by decide +kernel
theorem dX5_chance_55 : decode cX5_chance 55 = .ok (.if_icmp .ge 56, 3) := by decide +kernel
theorem dX5_chance_58 : decode cX5_chance 58 = .ok (.aload_n 0, 1) := by decide +kernel
theorem dX5_chance_59 : decode cX5_chance 59 = .ok (.getfield 33, 3) := by decide +kernel
theorem dX5_chance_62 : decode cX5_chance 62 = .ok (.iload_n 1, 1) := by decide +kernel
theorem dX5_chance_63 : decode cX5_chance 63 = .ok (.iload_n 2, 1) := by decide +kernel
theorem dX5_chance_64 : decode cX5_chance 64 = .ok (.iload 6, 2) := by decide +kernel
theorem dX5_chance_66 : decode cX5_chance 66 = .ok (.invokevirtual 236, 3) := by decide +kernel
theorem dX5_chance_69 : decode cX5_chance 69 = .ok (.invokestatic 179, 3) := by decide +kernel
theorem dX5_chance_72 : decode cX5_chance 72 = .ok (.ifCond .eq 33, 3) := by decide +kernel
theorem dX5_chance_75 : decode cX5_chance 75 = .ok (.iload 6, 2) := by decide +kernel
theorem dX5_chance_77 : decode cX5_chance 77 = .ok (.invokestatic 211, 3) := by decide +kernel
theorem dX5_chance_80 : decode cX5_chance 80 = .ok (.istore 7, 2) := by decide +kernel
theorem dX5_chance_82 : decode cX5_chance 82 = .ok (.iload 5, 2) := by decide +kernel
theorem dX5_chance_84 : decode cX5_chance 84 = .ok (.iload_n 3, 1) := by decide +kernel
theorem dX5_chance_85 : decode cX5_chance 85 = .ok (.iload 7, 2) := by decide +kernel
theorem dX5_chance_87 : decode cX5_chance 87 = .ok (.invokestatic 239, 3) := by decide +kernel
theorem dX5_chance_90 : decode cX5_chance 90 = .ok (.bipush 10, 2) := by decide +kernel
theorem dX5_chance_92 : decode cX5_chance 92 = .ok (.iload_n 3, 1) := by decide +kernel
theorem dX5_chance_93 : decode cX5_chance 93 = .ok (.isub, 1) := by decide +kernel
theorem dX5_chance_94 : decode cX5_chance 94 = .ok (.iload_n 2, 1) := by decide +kernel
theorem dX5_chance_95 : decode cX5_chance 95 = .ok (.iload 7, 2) := by decide +kernel
theorem dX5_chance_97 : decode cX5_chance 97 = .ok (.isub, 1) := by decide +kernel
theorem dX5_chance_98 : decode cX5_chance 98 = .ok (.invokestatic 239, 3) := by decide +kernel
theorem dX5_chance_101 : decode cX5_chance 101 = .ok (.imul, 1) := by decide +kernel
theorem dX5_chance_102 : decode cX5_chance 102 = .ok (.iadd, 1) := by decide +kernel
theorem dX5_chance_103 : decode cX5_chance 103 = .ok (.istore 5, 2) := by decide +kernel
theorem dX5_chance_105 : decode cX5_chance 105 = .ok (.iinc 6 1, 3) := by decide +kernel
theorem dX5_chance_108 : decode cX5_chance 108 = .ok (.goto (-58), 3) := by decide +kernel
theorem dX5_chance_111 : decode cX5_chance 111 = .ok (.bipush 10, 2) := by decide +kernel
theorem dX5_chance_113 : decode cX5_chance 113 = .ok (.iload_n 2, 1) := by decide +kernel
theorem dX5_chance_114 : decode cX5_chance 114 = .ok (.invokestatic 239, 3) := by decide +kernel
theorem dX5_chance_117 : decode cX5_chance 117 = .ok (.istore 6, 2) := by decide +kernel
theorem dX5_chance_119 : decode cX5_chance 119 = .ok (.iload 5, 2) := by decide +kernel
theorem dX5_chance_121 : decode cX5_chance 121 = .ok (.iload 6, 2) := by decide +kernel
theorem dX5_chance_123 : decode cX5_chance 123 = .ok (.invokestatic 242, 3) := by decide +kernel
theorem dX5_chance_126 : decode cX5_chance 126 = .ok (.istore 7, 2) := by decide +kernel
theorem dX5_chance_128 : decode cX5_chance 128 = .ok (.iload 4, 2) := by decide +kernel
theorem dX5_chance_130 : decode cX5_chance 130 = .ok (.ifCond .ne 8, 3) := by decide +kernel
theorem dX5_chance_133 : decode cX5_chance 133 = .ok (.iload 5, 2) := by decide +kernel
theorem dX5_chance_135 : decode cX5_chance 135 = .ok (.goto 5, 3) := by decide +kernel
theorem dX5_chance_138 : decode cX5_chance 138 = .ok (.iload 6, 2) := by decide +kernel
theorem dX5_chance_140 : decode cX5_chance 140 = .ok (.iload 7, 2) := by decide +kernel
theorem dX5_chance_142 : decode cX5_chance 142 = .ok (.idiv, 1) := by decide +kernel
theorem dX5_chance_143 : decode cX5_chance 143 = .ok (.ireturn, 1) := by decide +kernel
theorem dX5_drawn_0 : decode cX5_drawn 0 = .ok (.aload_n 0, 1) := by decide +kernel
theorem dX5_drawn_1 : decode cX5_drawn 1 = .ok (.invokevirtual 133, 3) := by decide +kernel
theorem dX5_drawn_4 : decode cX5_drawn 4 = .ok (.ifCond .ne 6, 3) := by decide +kernel
theorem dX5_drawn_7 : decode cX5_drawn 7 = .ok (.ldc 136, 2) := by decide +kernel
theorem dX5_drawn_9 : decode cX5_drawn 9 = .ok (.ireturn, 1) := by decide +kernel
theorem dX5_drawn_10 : decode cX5_drawn 10 = .ok (.iload_n 1, 1) := by decide +kernel
theorem dX5_drawn_11 : decode cX5_drawn 11 = .ok (.iconst 0, 1) := by decide +kernel
theorem dX5_drawn_12 : decode cX5_drawn 12 = .ok (.bipush 60, 2) := by decide +kernel
theorem dX5_drawn_14 : decode cX5_drawn 14 = .ok (.invokestatic 98, 3) := by decide +kernel
theorem dX5_drawn_17 : decode cX5_drawn 17 = .ok (.ifCond .eq 22, 3) := by decide +kernel
theorem dX5_drawn_20 : decode cX5_drawn 20 = .ok (.iload_n 2, 1) := by decide +kernel
theorem dX5_drawn_21 : decode cX5_drawn 21 = .ok (.iconst 1, 1) := by decide +kernel
theorem dX5_drawn_22 : decode cX5_drawn 22 = .ok (.ldc 245, 2) := by decide +kernel
theorem dX5_drawn_24 : decode cX5_drawn 24 = .ok (.invokestatic 98, 3) := by decide +kernel
theorem dX5_drawn_27 : decode cX5_drawn 27 = .ok (.ifCond .eq 12, 3) := by decide +kernel
theorem dX5_drawn_30 : decode cX5_drawn 30 = .ok (.iload_n 3, 1) := by decide +kernel
theorem dX5_drawn_31 : decode cX5_drawn 31 = .ok (.iconst 0, 1) := by decide +kernel
theorem dX5_drawn_32 : decode cX5_drawn 32 = .ok (.iconst 1, 1) := by decide +kernel
theorem dX5_drawn_33 : decode cX5_drawn 33 = .ok (.invokestatic 98, 3) := by decide +kernel
theorem dX5_drawn_36 : decode cX5_drawn 36 = .ok (.ifCond .ne 6, 3) := by decide +kernel
theorem dX5_drawn_39 : decode cX5_drawn 39 = .ok (.ldc 64, 2) := by decide +kernel
theorem dX5_drawn_41 : decode cX5_drawn 41 = .ok (.ireturn, 1) := by decide +kernel
theorem dX5_drawn_42 : decode cX5_drawn 42 = .ok (.aload_n 0, 1) := by decide +kernel
theorem dX5_drawn_43 : decode cX5_drawn 43 = .ok (.getfield 37, 3) := by decide +kernel
theorem dX5_drawn_46 : decode cX5_drawn 46 = .ok (.aload_n 0, 1) := by decide +kernel
theorem dX5_drawn_47 : decode cX5_drawn 47 = .ok (.getfield 33, 3) := by decide +kernel
theorem dX5_drawn_50 : decode cX5_drawn 50 = .ok (.invokevirtual 120, 3) := by decide +kernel
theorem dX5_drawn_53 : decode cX5_drawn 53 = .ok (.iload_n 2, 1) := by decide +kernel
theorem dX5_drawn_54 : decode cX5_drawn 54 = .ok (.i2l, 1) := by decide +kernel
theorem dX5_drawn_55 : decode cX5_drawn 55 = .ok (.lstore 4, 2) := by decide +kernel
theorem dX5_drawn_57 : decode cX5_drawn 57 = .ok (.iconst 0, 1) := by decide +kernel
theorem dX5_drawn_58 : decode cX5_drawn 58 = .ok (.istore 6, 2) := by decide +kernel
theorem dX5_drawn_60 : decode cX5_drawn 60 = .ok (.iconst 0, 1) := by decide +kernel
theorem dX5_drawn_61 : decode cX5_drawn 61 = .ok (.istore 7, 2) := by decide +kernel
theorem dX5_drawn_63 : decode cX5_drawn 63 = .ok (.iload 7, 2) := by decide +kernel
theorem dX5_drawn_65 : decode cX5_drawn 65 = .ok (.iload_n 1, 1) := by decide +kernel
theorem dX5_drawn_66 : decode cX5_drawn 66 = .ok (.if_icmp .ge 58, 3) := by decide +kernel
theorem dX5_drawn_69 : decode cX5_drawn 69 = .ok (.lload 4, 2) := by decide +kernel
theorem dX5_drawn_71 : decode cX5_drawn 71 = .ok (.ldc2_w 246, 3) := by decide +kernel
theorem dX5_drawn_74 : decode cX5_drawn 74 = .ok (.lmul, 1) := by decide +kernel
theorem dX5_drawn_75 : decode cX5_drawn 75 = .ok (.ldc2_w 248, 3) := by decide +kernel
theorem dX5_drawn_78 : decode cX5_drawn 78 = .ok (.lrem, 1) := by decide +kernel
theorem dX5_drawn_79 : decode cX5_drawn 79 = .ok (.lstore 4, 2) := by decide +kernel
theorem dX5_drawn_81 : decode cX5_drawn 81 = .ok (.aload_n 0, 1) := by decide +kernel
theorem dX5_drawn_82 : decode cX5_drawn 82 = .ok (.getfield 37, 3) := by decide +kernel
theorem dX5_drawn_85 : decode cX5_drawn 85 = .ok (.lload 4, 2) := by decide +kernel
theorem dX5_drawn_87 : decode cX5_drawn 87 = .ok (.ldc2_w 250, 3) := by decide +kernel
theorem dX5_drawn_90 : decode cX5_drawn 90 = .ok (.lrem, 1) := by decide +kernel
theorem dX5_drawn_91 : decode cX5_drawn 91 = .ok (.l2i, 1) := by decide +kernel
theorem dX5_drawn_92 : decode cX5_drawn 92 = .ok (.putfield 170, 3) := by decide +kernel
theorem dX5_drawn_95 : decode cX5_drawn 95 = .ok (.aload_n 0, 1) := by decide +kernel
theorem dX5_drawn_96 : decode cX5_drawn 96 = .ok (.getfield 37, 3) := by decide +kernel
theorem dX5_drawn_99 : decode cX5_drawn 99 = .ok (.lload 4, 2) := by decide +kernel
theorem dX5_drawn_101 : decode cX5_drawn 101 = .ok (.l2i, 1) := by decide +kernel
theorem dX5_drawn_102 : decode cX5_drawn 102 = .ok (.invokevirtual 252, 3) := by decide +kernel
theorem dX5_drawn_105 : decode cX5_drawn 105 = .ok (.ifCond .eq 6, 3) := by decide +kernel
theorem dX5_drawn_108 : decode cX5_drawn 108 = .ok (.iinc 6 1, 3) := by decide +kernel
theorem dX5_drawn_111 : decode cX5_drawn 111 = .ok (.aload_n 0, 1) := by decide +kernel
theorem dX5_drawn_112 : decode cX5_drawn 112 = .ok (.getfield 37, 3) := by decide +kernel
theorem dX5_drawn_115 : decode cX5_drawn 115 = .ok (.invokevirtual 143, 3) := by decide +kernel
theorem dX5_drawn_118 : decode cX5_drawn 118 = .ok (.iinc 7 1, 3) := by decide +kernel
theorem dX5_drawn_121 : decode cX5_drawn 121 = .ok (.goto (-58), 3) := by decide +kernel
theorem dX5_drawn_124 : decode cX5_drawn 124 = .ok (.iload_n 3, 1) := by decide +kernel
theorem dX5_drawn_125 : decode cX5_drawn 125 = .ok (.ifCond .ne 14, 3) := by decide +kernel
theorem dX5_drawn_128 : decode cX5_drawn 128 = .ok (.aload_n 0, 1) := by decide +kernel
theorem dX5_drawn_129 : decode cX5_drawn 129 = .ok (.getfield 37, 3) := by decide +kernel
theorem dX5_drawn_132 : decode cX5_drawn 132 = .ok (.iconst 0, 1) := by decide +kernel
theorem dX5_drawn_133 : decode cX5_drawn 133 = .ok (.invokevirtual 198, 3) := by decide +kernel
theorem dX5_drawn_136 : decode cX5_drawn 136 = .ok (.goto 5, 3) := by decide +kernel
theorem dX5_drawn_139 : decode cX5_drawn 139 = .ok (.iload 6, 2) := by decide +kernel
theorem dX5_drawn_141 : decode cX5_drawn 141 = .ok (.ireturn, 1) := by decide +kernel
theorem dX5_image_0 : decode cX5_image 0 = .ok (.iload_n 1, 1) := by decide +kernel
theorem dX5_image_1 : decode cX5_image 1 = .ok (.iconst 0, 1) := by decide +kernel
theorem dX5_image_2 : decode cX5_image 2 = .ok (.iconst 1, 1) := by decide +kernel
theorem dX5_image_3 : decode cX5_image 3 = .ok (.invokestatic 98, 3) := by decide +kernel
theorem dX5_image_6 : decode cX5_image 6 = .ok (.ifCond .ne 6, 3) := by decide +kernel
theorem dX5_image_9 : decode cX5_image 9 = .ok (.ldc 64, 2) := by decide +kernel
theorem dX5_image_11 : decode cX5_image 11 = .ok (.ireturn, 1) := by decide +kernel
theorem dX5_image_12 : decode cX5_image 12 = .ok (.aload_n 0, 1) := by decide +kernel
theorem dX5_image_13 : decode cX5_image 13 = .ok (.invokevirtual 133, 3) := by decide +kernel
theorem dX5_image_16 : decode cX5_image 16 = .ok (.ifCond .ne 6, 3) := by decide +kernel
theorem dX5_image_19 : decode cX5_image 19 = .ok (.ldc 136, 2) := by decide +kernel
theorem dX5_image_21 : decode cX5_image 21 = .ok (.ireturn, 1) := by decide +kernel
theorem dX5_image_22 : decode cX5_image 22 = .ok (.aload_n 0, 1) := by decide +kernel
theorem dX5_image_23 : decode cX5_image 23 = .ok (.getfield 44, 3) := by decide +kernel
theorem dX5_image_26 : decode cX5_image 26 = .ok (.iload_n 1, 1) := by decide +kernel
theorem dX5_image_27 : decode cX5_image 27 = .ok (.aaload, 1) := by decide +kernel
theorem dX5_image_28 : decode cX5_image 28 = .ok (.aload_n 0, 1) := by decide +kernel
theorem dX5_image_29 : decode cX5_image 29 = .ok (.getfield 33, 3) := by decide +kernel
theorem dX5_image_32 : decode cX5_image 32 = .ok (.invokevirtual 120, 3) := by decide +kernel
theorem dX5_image_35 : decode cX5_image 35 = .ok (.iconst 1, 1) := by decide +kernel
theorem dX5_image_36 : decode cX5_image 36 = .ok (.ireturn, 1) := by decide +kernel
theorem dX5_restore_0 : decode cX5_restore 0 = .ok (.iload_n 1, 1) := by decide +kernel
theorem dX5_restore_1 : decode cX5_restore 1 = .ok (.iconst 0, 1) := by decide +kernel
theorem dX5_restore_2 : decode cX5_restore 2 = .ok (.iconst 1, 1) := by decide +kernel
theorem dX5_restore_3 : decode cX5_restore 3 = .ok (.invokestatic 98, 3) := by decide +kernel
theorem dX5_restore_6 : decode cX5_restore 6 = .ok (.ifCond .ne 6, 3) := by decide +kernel
theorem dX5_restore_9 : decode cX5_restore 9 = .ok (.ldc 64, 2) := by decide +kernel
theorem dX5_restore_11 : decode cX5_restore 11 = .ok (.ireturn, 1) := by decide +kernel
theorem dX5_restore_12 : decode cX5_restore 12 = .ok (.aload_n 0, 1) := by decide +kernel
theorem dX5_restore_13 : decode cX5_restore 13 = .ok (.getfield 44, 3) := by decide +kernel
theorem dX5_restore_16 : decode cX5_restore 16 = .ok (.iload_n 1, 1) := by decide +kernel
theorem dX5_restore_17 : decode cX5_restore 17 = .ok (.aaload, 1) := by decide +kernel
theorem dX5_restore_18 : decode cX5_restore 18 = .ok (.getfield 127, 3) := by decide +kernel
theorem dX5_restore_21 : decode cX5_restore 21 = .ok (.ifCond .ne 6, 3) := by decide +kernel
theorem dX5_restore_24 : decode cX5_restore 24 = .ok (.ldc 136, 2) := by decide +kernel
theorem dX5_restore_26 : decode cX5_restore 26 = .ok (.ireturn, 1) := by decide +kernel
theorem dX5_restore_27 : decode cX5_restore 27 = .ok (.aload_n 0, 1) := by decide +kernel
theorem dX5_restore_28 : decode cX5_restore 28 = .ok (.getfield 33, 3) := by decide +kernel
theorem dX5_restore_31 : decode cX5_restore 31 = .ok (.aload_n 0, 1) := by decide +kernel
theorem dX5_restore_32 : decode cX5_restore 32 = .ok (.getfield 44, 3) := by decide +kernel
theorem dX5_restore_35 : decode cX5_restore 35 = .ok (.iload_n 1, 1) := by decide +kernel
theorem dX5_restore_36 : decode cX5_restore 36 = .ok (.aaload, 1) := by decide +kernel
theorem dX5_restore_37 : decode cX5_restore 37 = .ok (.invokevirtual 120, 3) := by decide +kernel
theorem dX5_restore_40 : decode cX5_restore 40 = .ok (.aload_n 0, 1) := by decide +kernel
theorem dX5_restore_41 : decode cX5_restore 41 = .ok (.invokevirtual 124, 3) := by decide +kernel
theorem dX5_restore_44 : decode cX5_restore 44 = .ok (.iconst 1, 1) := by decide +kernel
theorem dX5_restore_45 : decode cX5_restore 45 = .ok (.ireturn, 1) := by decide +kernel
theorem dX5_kind_0 : decode cX5_kind 0 = .ok (.aload_n 0, 1) := by decide +kernel
theorem dX5_kind_1 : decode cX5_kind 1 = .ok (.getfield 33, 3) := by decide +kernel
theorem dX5_kind_4 : decode cX5_kind 4 = .ok (.iload_n 1, 1) := by decide +kernel
theorem dX5_kind_5 : decode cX5_kind 5 = .ok (.invokevirtual 150, 3) := by decide +kernel
theorem dX5_kind_8 : decode cX5_kind 8 = .ok (.ifCond .eq 15, 3) := by decide +kernel
theorem dX5_kind_11 : decode cX5_kind 11 = .ok (.aload_n 0, 1) := by decide +kernel
theorem dX5_kind_12 : decode cX5_kind 12 = .ok (.getfield 33, 3) := by decide +kernel
theorem dX5_kind_15 : decode cX5_kind 15 = .ok (.getfield 255, 3) := by decide +kernel
theorem dX5_kind_18 : decode cX5_kind 18 = .ok (.iload_n 1, 1) := by decide +kernel
theorem dX5_kind_19 : decode cX5_kind 19 = .ok (.iaload, 1) := by decide +kernel
theorem dX5_kind_20 : decode cX5_kind 20 = .ok (.goto 5, 3) := by decide +kernel
theorem dX5_kind_23 : decode cX5_kind 23 = .ok (.ldc 64, 2) := by decide +kernel
theorem dX5_kind_25 : decode cX5_kind 25 = .ok (.ireturn, 1) := by decide +kernel
theorem dX5_as_0 : decode cX5_as 0 = .ok (.aload_n 0, 1) := by decide +kernel
theorem dX5_as_1 : decode cX5_as 1 = .ok (.getfield 33, 3) := by decide +kernel
theorem dX5_as_4 : decode cX5_as 4 = .ok (.iload_n 1, 1) := by decide +kernel
theorem dX5_as_5 : decode cX5_as 5 = .ok (.invokevirtual 150, 3) := by decide +kernel
theorem dX5_as_8 : decode cX5_as 8 = .ok (.ifCond .eq 12, 3) := by decide +kernel
theorem dX5_as_11 : decode cX5_as 11 = .ok (.iload_n 2, 1) := by decide +kernel
theorem dX5_as_12 : decode cX5_as 12 = .ok (.iconst 0, 1) := by decide +kernel
theorem dX5_as_13 : decode cX5_as 13 = .ok (.iconst 5, 1) := by decide +kernel
theorem dX5_as_14 : decode cX5_as 14 = .ok (.invokestatic 98, 3) := by decide +kernel
theorem dX5_as_17 : decode cX5_as 17 = .ok (.ifCond .ne 6, 3) := by decide +kernel
theorem dX5_as_20 : decode cX5_as 20 = .ok (.ldc 64, 2) := by decide +kernel
theorem dX5_as_22 : decode cX5_as 22 = .ok (.ireturn, 1) := by decide +kernel
theorem dX5_as_23 : decode cX5_as 23 = .ok (.aload_n 0, 1) := by decide +kernel
theorem dX5_as_24 : decode cX5_as 24 = .ok (.getfield 33, 3) := by decide +kernel
theorem dX5_as_27 : decode cX5_as 27 = .ok (.getfield 255, 3) := by decide +kernel
theorem dX5_as_30 : decode cX5_as 30 = .ok (.iload_n 1, 1) := by decide +kernel
theorem dX5_as_31 : decode cX5_as 31 = .ok (.iaload, 1) := by decide +kernel
theorem dX5_as_32 : decode cX5_as 32 = .ok (.iload_n 2, 1) := by decide +kernel
theorem dX5_as_33 : decode cX5_as 33 = .ok (.invokestatic 260, 3) := by decide +kernel
theorem dX5_as_36 : decode cX5_as 36 = .ok (.ifCond .ne 9, 3) := by decide +kernel
theorem dX5_as_39 : decode cX5_as 39 = .ok (.aload_n 0, 1) := by decide +kernel
theorem dX5_as_40 : decode cX5_as 40 = .ok (.iconst 3, 1) := by decide +kernel
theorem dX5_as_41 : decode cX5_as 41 = .ok (.invokevirtual 65, 3) := by decide +kernel
theorem dX5_as_44 : decode cX5_as 44 = .ok (.ireturn, 1) := by decide +kernel
theorem dX5_as_45 : decode cX5_as 45 = .ok (.aload_n 0, 1) := by decide +kernel
theorem dX5_as_46 : decode cX5_as 46 = .ok (.iload_n 1, 1) := by decide +kernel
theorem dX5_as_47 : decode cX5_as 47 = .ok (.invokevirtual 73, 3) := by decide +kernel
theorem dX5_as_50 : decode cX5_as 50 = .ok (.ireturn, 1) := by decide +kernel
theorem dX5_ask_0 : decode cX5_ask 0 = .ok (.aload_n 0, 1) := by decide +kernel
theorem dX5_ask_1 : decode cX5_ask 1 = .ok (.getfield 33, 3) := by decide +kernel
theorem dX5_ask_4 : decode cX5_ask 4 = .ok (.iload_n 1, 1) := by decide +kernel
theorem dX5_ask_5 : decode cX5_ask 5 = .ok (.invokevirtual 150, 3) := by decide +kernel
theorem dX5_ask_8 : decode cX5_ask 8 = .ok (.ifCond .eq 12, 3) := by decide +kernel
theorem dX5_ask_11 : decode cX5_ask 11 = .ok (.iload_n 2, 1) := by decide +kernel
theorem dX5_ask_12 : decode cX5_ask 12 = .ok (.iconst 0, 1) := by decide +kernel
theorem dX5_ask_13 : decode cX5_ask 13 = .ok (.iconst 1, 1) := by decide +kernel
theorem dX5_ask_14 : decode cX5_ask 14 = .ok (.invokestatic 98, 3) := by decide +kernel
theorem dX5_ask_17 : decode cX5_ask 17 = .ok (.ifCond .ne 6, 3) := by decide +kernel
theorem dX5_ask_20 : decode cX5_ask 20 = .ok (.ldc 64, 2) := by decide +kernel
theorem dX5_ask_22 : decode cX5_ask 22 = .ok (.ireturn, 1) := by decide +kernel
theorem dX5_ask_23 : decode cX5_ask 23 = .ok (.aload_n 0, 1) := by decide +kernel
theorem dX5_ask_24 : decode cX5_ask 24 = .ok (.getfield 26, 3) := by decide +kernel
theorem dX5_ask_27 : decode cX5_ask 27 = .ok (.aload_n 0, 1) := by decide +kernel
theorem dX5_ask_28 : decode cX5_ask 28 = .ok (.getfield 33, 3) := by decide +kernel
theorem dX5_ask_31 : decode cX5_ask 31 = .ok (.iload_n 1, 1) := by decide +kernel
theorem dX5_ask_32 : decode cX5_ask 32 = .ok (.invokevirtual 263, 3) := by decide +kernel
theorem dX5_ask_35 : decode cX5_ask 35 = .ok (.iload_n 2, 1) := by decide +kernel
theorem dX5_ask_36 : decode cX5_ask 36 = .ok (.ifCond .ne 13, 3) := by decide +kernel
theorem dX5_ask_39 : decode cX5_ask 39 = .ok (.aload_n 0, 1) := by decide +kernel
theorem dX5_ask_40 : decode cX5_ask 40 = .ok (.getfield 26, 3) := by decide +kernel
theorem dX5_ask_43 : decode cX5_ask 43 = .ok (.invokevirtual 267, 3) := by decide +kernel
theorem dX5_ask_46 : decode cX5_ask 46 = .ok (.goto 10, 3) := by decide +kernel
theorem dX5_ask_49 : decode cX5_ask 49 = .ok (.aload_n 0, 1) := by decide +kernel
theorem dX5_ask_50 : decode cX5_ask 50 = .ok (.getfield 26, 3) := by decide +kernel
theorem dX5_ask_53 : decode cX5_ask 53 = .ok (.invokevirtual 270, 3) := by decide +kernel
theorem dX5_ask_56 : decode cX5_ask 56 = .ok (.ireturn, 1) := by decide +kernel
theorem dX5_trace_0 : decode cX5_trace 0 = .ok (.aload_n 0, 1) := by decide +kernel
theorem dX5_trace_1 : decode cX5_trace 1 = .ok (.getfield 26, 3) := by decide +kernel
theorem dX5_trace_4 : decode cX5_trace 4 = .ok (.iload_n 1, 1) := by decide +kernel
theorem dX5_trace_5 : decode cX5_trace 5 = .ok (.invokevirtual 273, 3) := by decide +kernel
theorem dX5_trace_8 : decode cX5_trace 8 = .ok (.ifCond .eq 15, 3) := by decide +kernel
theorem dX5_trace_11 : decode cX5_trace 11 = .ok (.aload_n 0, 1) := by decide +kernel
theorem dX5_trace_12 : decode cX5_trace 12 = .ok (.getfield 26, 3) := by decide +kernel
theorem dX5_trace_15 : decode cX5_trace 15 = .ok (.getfield 276, 3) := by decide +kernel
theorem dX5_trace_18 : decode cX5_trace 18 = .ok (.iload_n 1, 1) := by decide +kernel
theorem dX5_trace_19 : decode cX5_trace 19 = .ok (.iaload, 1) := by decide +kernel
theorem dX5_trace_20 : decode cX5_trace 20 = .ok (.goto 5, 3) := by decide +kernel
theorem dX5_trace_23 : decode cX5_trace 23 = .ok (.ldc 210, 2) := by decide +kernel
theorem dX5_trace_25 : decode cX5_trace 25 = .ok (.ireturn, 1) := by decide +kernel
theorem dX5_count_0 : decode cX5_count 0 = .ok (.iload_n 1, 1) := by decide +kernel
theorem dX5_count_1 : decode cX5_count 1 = .ok (.tableswitch 133 0 9 #[55, 63, 71, 79, 87, 95, 103, 112, 120, 125], 55) := by decide +kernel
theorem dX5_count_56 : decode cX5_count 56 = .ok (.aload_n 0, 1) := by decide +kernel
theorem dX5_count_57 : decode cX5_count 57 = .ok (.getfield 10, 3) := by decide +kernel
theorem dX5_count_60 : decode cX5_count 60 = .ok (.invokevirtual 279, 3) := by decide +kernel
theorem dX5_count_63 : decode cX5_count 63 = .ok (.ireturn, 1) := by decide +kernel
theorem dX5_count_64 : decode cX5_count 64 = .ok (.aload_n 0, 1) := by decide +kernel
theorem dX5_count_65 : decode cX5_count 65 = .ok (.getfield 33, 3) := by decide +kernel
theorem dX5_count_68 : decode cX5_count 68 = .ok (.getfield 127, 3) := by decide +kernel
theorem dX5_count_71 : decode cX5_count 71 = .ok (.ireturn, 1) := by decide +kernel
theorem dX5_count_72 : decode cX5_count 72 = .ok (.aload_n 0, 1) := by decide +kernel
theorem dX5_count_73 : decode cX5_count 73 = .ok (.getfield 33, 3) := by decide +kernel
theorem dX5_count_76 : decode cX5_count 76 = .ok (.getfield 204, 3) := by decide +kernel
theorem dX5_count_79 : decode cX5_count 79 = .ok (.ireturn, 1) := by decide +kernel
theorem dX5_count_80 : decode cX5_count 80 = .ok (.aload_n 0, 1) := by decide +kernel
theorem dX5_count_81 : decode cX5_count 81 = .ok (.getfield 33, 3) := by decide +kernel
theorem dX5_count_84 : decode cX5_count 84 = .ok (.getfield 137, 3) := by decide +kernel
theorem dX5_count_87 : decode cX5_count 87 = .ok (.ireturn, 1) := by decide +kernel
theorem dX5_count_88 : decode cX5_count 88 = .ok (.aload_n 0, 1) := by decide +kernel
theorem dX5_count_89 : decode cX5_count 89 = .ok (.getfield 33, 3) := by decide +kernel
theorem dX5_count_92 : decode cX5_count 92 = .ok (.getfield 170, 3) := by decide +kernel
theorem dX5_count_95 : decode cX5_count 95 = .ok (.ireturn, 1) := by decide +kernel
theorem dX5_count_96 : decode cX5_count 96 = .ok (.aload_n 0, 1) := by decide +kernel
theorem dX5_count_97 : decode cX5_count 97 = .ok (.getfield 33, 3) := by decide +kernel
theorem dX5_count_100 : decode cX5_count 100 = .ok (.getfield 282, 3) := by decide +kernel
theorem dX5_count_103 : decode cX5_count 103 = .ok (.ireturn, 1) := by decide +kernel
theorem dX5_count_104 : decode cX5_count 104 = .ok (.aload_n 0, 1) := by decide +kernel
theorem dX5_count_105 : decode cX5_count 105 = .ok (.getfield 33, 3) := by decide +kernel
theorem dX5_count_108 : decode cX5_count 108 = .ok (.iconst 0, 1) := by decide +kernel
theorem dX5_count_109 : decode cX5_count 109 = .ok (.invokevirtual 198, 3) := by decide +kernel
theorem dX5_count_112 : decode cX5_count 112 = .ok (.ireturn, 1) := by decide +kernel
theorem dX5_count_113 : decode cX5_count 113 = .ok (.aload_n 0, 1) := by decide +kernel
theorem dX5_count_114 : decode cX5_count 114 = .ok (.getfield 33, 3) := by decide +kernel
theorem dX5_count_117 : decode cX5_count 117 = .ok (.invokevirtual 146, 3) := by decide +kernel
theorem dX5_count_120 : decode cX5_count 120 = .ok (.ireturn, 1) := by decide +kernel
theorem dX5_count_121 : decode cX5_count 121 = .ok (.aload_n 0, 1) := by decide +kernel
theorem dX5_count_122 : decode cX5_count 122 = .ok (.getfield 51, 3) := by decide +kernel
theorem dX5_count_125 : decode cX5_count 125 = .ok (.ireturn, 1) := by decide +kernel
theorem dX5_count_126 : decode cX5_count 126 = .ok (.aload_n 0, 1) := by decide +kernel
theorem dX5_count_127 : decode cX5_count 127 = .ok (.getfield 19, 3) := by decide +kernel
theorem dX5_count_130 : decode cX5_count 130 = .ok (.getfield 285, 3) := by decide +kernel
theorem dX5_count_133 : decode cX5_count 133 = .ok (.ireturn, 1) := by decide +kernel
theorem dX5_count_134 : decode cX5_count 134 = .ok (.ldc 64, 2) := by decide +kernel
theorem dX5_count_136 : decode cX5_count 136 = .ok (.ireturn, 1) := by decide +kernel
theorem dX5_status_0 : decode cX5_status 0 = .ok (.aload_n 0, 1) := by decide +kernel
theorem dX5_status_1 : decode cX5_status 1 = .ok (.getfield 54, 3) := by decide +kernel
theorem dX5_status_4 : decode cX5_status 4 = .ok (.ireturn, 1) := by decide +kernel
theorem dX5_isWithin_0 : decode cX5_isWithin 0 = .ok (.iload_n 1, 1) := by decide +kernel
theorem dX5_isWithin_1 : decode cX5_isWithin 1 = .ok (.iload_n 0, 1) := by decide +kernel
theorem dX5_isWithin_2 : decode cX5_isWithin 2 = .ok (.if_icmp .gt 12, 3) := by decide +kernel
theorem dX5_isWithin_5 : decode cX5_isWithin 5 = .ok (.iload_n 0, 1) := by decide +kernel
theorem dX5_isWithin_6 : decode cX5_isWithin 6 = .ok (.iload_n 2, 1) := by decide +kernel
theorem dX5_isWithin_7 : decode cX5_isWithin 7 = .ok (.if_icmp .gt 7, 3) := by decide +kernel
theorem dX5_isWithin_10 : decode cX5_isWithin 10 = .ok (.iconst 1, 1) := by decide +kernel
theorem dX5_isWithin_11 : decode cX5_isWithin 11 = .ok (.goto 4, 3) := by decide +kernel
theorem dX5_isWithin_14 : decode cX5_isWithin 14 = .ok (.iconst 0, 1) := by decide +kernel
theorem dX5_isWithin_15 : decode cX5_isWithin 15 = .ok (.ireturn, 1) := by decide +kernel
theorem dX5_finding_0 : decode cX5_finding 0 = .ok (.aload_n 0, 1) := by decide +kernel
theorem dX5_finding_1 : decode cX5_finding 1 = .ok (.iload_n 1, 1) := by decide +kernel
theorem dX5_finding_2 : decode cX5_finding 2 = .ok (.putfield 54, 3) := by decide +kernel
theorem dX5_finding_5 : decode cX5_finding 5 = .ok (.ldc_w 288, 3) := by decide +kernel
theorem dX5_finding_8 : decode cX5_finding 8 = .ok (.iload_n 1, 1) := by decide +kernel
theorem dX5_finding_9 : decode cX5_finding 9 = .ok (.isub, 1) := by decide +kernel
theorem dX5_finding_10 : decode cX5_finding 10 = .ok (.ireturn, 1) := by decide +kernel
theorem dX5_unfound_0 : decode cX5_unfound 0 = .ok (.aload_n 0, 1) := by decide +kernel
theorem dX5_unfound_1 : decode cX5_unfound 1 = .ok (.iconst 0, 1) := by decide +kernel
theorem dX5_unfound_2 : decode cX5_unfound 2 = .ok (.putfield 54, 3) := by decide +kernel
theorem dX5_unfound_5 : decode cX5_unfound 5 = .ok (.iload_n 1, 1) := by decide +kernel
theorem dX5_unfound_6 : decode cX5_unfound 6 = .ok (.ireturn, 1) := by decide +kernel
theorem dX5_hasRiver_0 : decode cX5_hasRiver 0 = .ok (.aload_n 0, 1) := by decide +kernel
theorem dX5_hasRiver_1 : decode cX5_hasRiver 1 = .ok (.getfield 33, 3) := by decide +kernel
theorem dX5_hasRiver_4 : decode cX5_hasRiver 4 = .ok (.getfield 127, 3) := by decide +kernel
theorem dX5_hasRiver_7 : decode cX5_hasRiver 7 = .ok (.ifCond .le 7, 3) := by decide +kernel
theorem dX5_hasRiver_10 : decode cX5_hasRiver 10 = .ok (.iconst 1, 1) := by decide +kernel
theorem dX5_hasRiver_11 : decode cX5_hasRiver 11 = .ok (.goto 4, 3) := by decide +kernel
theorem dX5_hasRiver_14 : decode cX5_hasRiver 14 = .ok (.iconst 0, 1) := by decide +kernel
theorem dX5_hasRiver_15 : decode cX5_hasRiver 15 = .ok (.ireturn, 1) := by decide +kernel
theorem dX5_cellOrNone_0 : decode cX5_cellOrNone 0 = .ok (.iload_n 0, 1) := by decide +kernel
theorem dX5_cellOrNone_1 : decode cX5_cellOrNone 1 = .ok (.invokestatic 179, 3) := by decide +kernel
theorem dX5_cellOrNone_4 : decode cX5_cellOrNone 4 = .ok (.ifCond .eq 8, 3) := by decide +kernel
theorem dX5_cellOrNone_7 : decode cX5_cellOrNone 7 = .ok (.ldc 210, 2) := by decide +kernel
theorem dX5_cellOrNone_9 : decode cX5_cellOrNone 9 = .ok (.goto 7, 3) := by decide +kernel
theorem dX5_cellOrNone_12 : decode cX5_cellOrNone 12 = .ok (.iload_n 0, 1) := by decide +kernel
theorem dX5_cellOrNone_13 : decode cX5_cellOrNone 13 = .ok (.invokestatic 182, 3) := by decide +kernel
theorem dX5_cellOrNone_16 : decode cX5_cellOrNone 16 = .ok (.ireturn, 1) := by decide +kernel
theorem dX5_keepAct_0 : decode cX5_keepAct 0 = .ok (.aload_n 0, 1) := by decide +kernel
theorem dX5_keepAct_1 : decode cX5_keepAct 1 = .ok (.getfield 40, 3) := by decide +kernel
theorem dX5_keepAct_4 : decode cX5_keepAct 4 = .ok (.aload_n 0, 1) := by decide +kernel
theorem dX5_keepAct_5 : decode cX5_keepAct 5 = .ok (.getfield 47, 3) := by decide +kernel
theorem dX5_keepAct_8 : decode cX5_keepAct 8 = .ok (.aaload, 1) := by decide +kernel
theorem dX5_keepAct_9 : decode cX5_keepAct 9 = .ok (.aload_n 0, 1) := by decide +kernel
theorem dX5_keepAct_10 : decode cX5_keepAct 10 = .ok (.getfield 33, 3) := by decide +kernel
theorem dX5_keepAct_13 : decode cX5_keepAct 13 = .ok (.invokevirtual 120, 3) := by decide +kernel
theorem dX5_keepAct_16 : decode cX5_keepAct 16 = .ok (.aload_n 0, 1) := by decide +kernel
theorem dX5_keepAct_17 : decode cX5_keepAct 17 = .ok (.aload_n 0, 1) := by decide +kernel
theorem dX5_keepAct_18 : decode cX5_keepAct 18 = .ok (.getfield 47, 3) := by decide +kernel
theorem dX5_keepAct_21 : decode cX5_keepAct 21 = .ok (.iconst 1, 1) := by decide +kernel
theorem dX5_keepAct_22 : decode cX5_keepAct 22 = .ok (.iadd, 1) := by decide +kernel
theorem dX5_keepAct_23 : decode cX5_keepAct 23 = .ok (.bipush 24, 2) := by decide +kernel
theorem dX5_keepAct_25 : decode cX5_keepAct 25 = .ok (.irem, 1) := by decide +kernel
theorem dX5_keepAct_26 : decode cX5_keepAct 26 = .ok (.putfield 47, 3) := by decide +kernel
theorem dX5_keepAct_29 : decode cX5_keepAct 29 = .ok (.aload_n 0, 1) := by decide +kernel
theorem dX5_keepAct_30 : decode cX5_keepAct 30 = .ok (.aload_n 0, 1) := by decide +kernel
theorem dX5_keepAct_31 : decode cX5_keepAct 31 = .ok (.getfield 51, 3) := by decide +kernel
theorem dX5_keepAct_34 : decode cX5_keepAct 34 = .ok (.iconst 1, 1) := by decide +kernel
theorem dX5_keepAct_35 : decode cX5_keepAct 35 = .ok (.iadd, 1) := by decide +kernel
theorem dX5_keepAct_36 : decode cX5_keepAct 36 = .ok (.bipush 24, 2) := by decide +kernel
theorem dX5_keepAct_38 : decode cX5_keepAct 38 = .ok (.invokestatic 289, 3) := by decide +kernel
theorem dX5_keepAct_41 : decode cX5_keepAct 41 = .ok (.putfield 51, 3) := by decide +kernel
theorem dX5_keepAct_44 : decode cX5_keepAct 44 = .ok (.return_, 1) := by decide +kernel
theorem dX5_forgetActs_0 : decode cX5_forgetActs 0 = .ok (.aload_n 0, 1) := by decide +kernel
theorem dX5_forgetActs_1 : decode cX5_forgetActs 1 = .ok (.iconst 0, 1) := by decide +kernel
theorem dX5_forgetActs_2 : decode cX5_forgetActs 2 = .ok (.putfield 47, 3) := by decide +kernel
theorem dX5_forgetActs_5 : decode cX5_forgetActs 5 = .ok (.aload_n 0, 1) := by decide +kernel
theorem dX5_forgetActs_6 : decode cX5_forgetActs 6 = .ok (.iconst 0, 1) := by decide +kernel
theorem dX5_forgetActs_7 : decode cX5_forgetActs 7 = .ok (.putfield 51, 3) := by decide +kernel
theorem dX5_forgetActs_10 : decode cX5_forgetActs 10 = .ok (.return_, 1) := by decide +kernel
theorem dX5_fewestSwift_0 : decode cX5_fewestSwift 0 = .ok (.aload_n 0, 1) := by decide +kernel
theorem dX5_fewestSwift_1 : decode cX5_fewestSwift 1 = .ok (.getfield 33, 3) := by decide +kernel
theorem dX5_fewestSwift_4 : decode cX5_fewestSwift 4 = .ok (.invokevirtual 294, 3) := by decide +kernel
theorem dX5_fewestSwift_7 : decode cX5_fewestSwift 7 = .ok (.ifCond .eq 6, 3) := by decide +kernel
theorem dX5_fewestSwift_10 : decode cX5_fewestSwift 10 = .ok (.ldc 210, 2) := by decide +kernel
theorem dX5_fewestSwift_12 : decode cX5_fewestSwift 12 = .ok (.ireturn, 1) := by decide +kernel
theorem dX5_fewestSwift_13 : decode cX5_fewestSwift 13 = .ok (.aload_n 0, 1) := by decide +kernel
theorem dX5_fewestSwift_14 : decode cX5_fewestSwift 14 = .ok (.getfield 37, 3) := by decide +kernel
theorem dX5_fewestSwift_17 : decode cX5_fewestSwift 17 = .ok (.aload_n 0, 1) := by decide +kernel
theorem dX5_fewestSwift_18 : decode cX5_fewestSwift 18 = .ok (.getfield 33, 3) := by decide +kernel
theorem dX5_fewestSwift_21 : decode cX5_fewestSwift 21 = .ok (.invokevirtual 120, 3) := by decide +kernel
theorem dX5_fewestSwift_24 : decode cX5_fewestSwift 24 = .ok (.iconst 0, 1) := by decide +kernel
theorem dX5_fewestSwift_25 : decode cX5_fewestSwift 25 = .ok (.istore_n 2, 1) := by decide +kernel
theorem dX5_fewestSwift_26 : decode cX5_fewestSwift 26 = .ok (.iload_n 2, 1) := by decide +kernel
theorem dX5_fewestSwift_27 : decode cX5_fewestSwift 27 = .ok (.aload_n 0, 1) := by decide +kernel
theorem dX5_fewestSwift_28 : decode cX5_fewestSwift 28 = .ok (.getfield 33, 3) := by decide +kernel
theorem dX5_fewestSwift_31 : decode cX5_fewestSwift 31 = .ok (.getfield 127, 3) := by decide +kernel
theorem dX5_fewestSwift_34 : decode cX5_fewestSwift 34 = .ok (.if_icmp .gt 66, 3) := by decide +kernel
theorem dX5_fewestSwift_37 : decode cX5_fewestSwift 37 = .ok (.iconst 0, 1) := by decide +kernel
theorem dX5_fewestSwift_38 : decode cX5_fewestSwift 38 = .ok (.istore_n 3, 1) := by decide +kernel
theorem dX5_fewestSwift_39 : decode cX5_fewestSwift 39 = .ok (.iload_n 3, 1) := by decide +kernel
theorem dX5_fewestSwift_40 : decode cX5_fewestSwift 40 = .ok (.iconst 1, 1) := by decide +kernel
theorem dX5_fewestSwift_41 : decode cX5_fewestSwift 41 = .ok (.aload_n 0, 1) := by decide +kernel
theorem dX5_fewestSwift_42 : decode cX5_fewestSwift 42 = .ok (.getfield 33, 3) := by decide +kernel
theorem dX5_fewestSwift_45 : decode cX5_fewestSwift 45 = .ok (.getfield 127, 3) := by decide +kernel
theorem dX5_fewestSwift_48 : decode cX5_fewestSwift 48 = .ok (.ishl, 1) := by decide +kernel
theorem dX5_fewestSwift_49 : decode cX5_fewestSwift 49 = .ok (.if_icmp .ge 45, 3) := by decide +kernel
theorem dX5_fewestSwift_52 : decode cX5_fewestSwift 52 = .ok (.iload_n 3, 1) := by decide +kernel
theorem dX5_fewestSwift_53 : decode cX5_fewestSwift 53 = .ok (.invokestatic 211, 3) := by decide +kernel
theorem dX5_fewestSwift_56 : decode cX5_fewestSwift 56 = .ok (.iload_n 2, 1) := by decide +kernel
theorem dX5_fewestSwift_57 : decode cX5_fewestSwift 57 = .ok (.if_icmp .eq 6, 3) := by decide +kernel
theorem dX5_fewestSwift_60 : decode cX5_fewestSwift 60 = .ok (.goto 28, 3) := by decide +kernel
theorem dX5_fewestSwift_63 : decode cX5_fewestSwift 63 = .ok (.aload_n 0, 1) := by decide +kernel
theorem dX5_fewestSwift_64 : decode cX5_fewestSwift 64 = .ok (.getfield 37, 3) := by decide +kernel
theorem dX5_fewestSwift_67 : decode cX5_fewestSwift 67 = .ok (.aload_n 0, 1) := by decide +kernel
theorem dX5_fewestSwift_68 : decode cX5_fewestSwift 68 = .ok (.getfield 33, 3) := by decide +kernel
theorem dX5_fewestSwift_71 : decode cX5_fewestSwift 71 = .ok (.iload_n 3, 1) := by decide +kernel
theorem dX5_fewestSwift_72 : decode cX5_fewestSwift 72 = .ok (.invokevirtual 297, 3) := by decide +kernel
theorem dX5_fewestSwift_75 : decode cX5_fewestSwift 75 = .ok (.aload_n 0, 1) := by decide +kernel
theorem dX5_fewestSwift_76 : decode cX5_fewestSwift 76 = .ok (.getfield 37, 3) := by decide +kernel
theorem dX5_fewestSwift_79 : decode cX5_fewestSwift 79 = .ok (.iload_n 1, 1) := by decide +kernel
theorem dX5_fewestSwift_80 : decode cX5_fewestSwift 80 = .ok (.invokevirtual 300, 3) := by decide +kernel
theorem dX5_fewestSwift_83 : decode cX5_fewestSwift 83 = .ok (.ifCond .eq 5, 3) := by decide +kernel
theorem dX5_fewestSwift_86 : decode cX5_fewestSwift 86 = .ok (.iload_n 3, 1) := by decide +kernel
theorem dX5_fewestSwift_87 : decode cX5_fewestSwift 87 = .ok (.ireturn, 1) := by decide +kernel
theorem dX5_fewestSwift_88 : decode cX5_fewestSwift 88 = .ok (.iinc 3 1, 3) := by decide +kernel
theorem dX5_fewestSwift_91 : decode cX5_fewestSwift 91 = .ok (.goto (-52), 3) := by decide +kernel
theorem dX5_fewestSwift_94 : decode cX5_fewestSwift 94 = .ok (.iinc 2 1, 3) := by decide +kernel
theorem dX5_fewestSwift_97 : decode cX5_fewestSwift 97 = .ok (.goto (-71), 3) := by decide +kernel
theorem dX5_fewestSwift_100 : decode cX5_fewestSwift 100 = .ok (.ldc 210, 2) := by decide +kernel
theorem dX5_fewestSwift_102 : decode cX5_fewestSwift 102 = .ok (.ireturn, 1) := by decide +kernel
theorem dX5_fittingSorts_0 : decode cX5_fittingSorts 0 = .ok (.iconst 0, 1) := by decide +kernel
theorem dX5_fittingSorts_1 : decode cX5_fittingSorts 1 = .ok (.istore 5, 2) := by decide +kernel
theorem dX5_fittingSorts_3 : decode cX5_fittingSorts 3 = .ok (.iconst 1, 1) := by decide +kernel
theorem dX5_fittingSorts_4 : decode cX5_fittingSorts 4 = .ok (.istore 6, 2) := by decide +kernel
theorem dX5_fittingSorts_6 : decode cX5_fittingSorts 6 = .ok (.iload 6, 2) := by decide +kernel
theorem dX5_fittingSorts_8 : decode cX5_fittingSorts 8 = .ok (.iconst 5, 1) := by decide +kernel
theorem dX5_fittingSorts_9 : decode cX5_fittingSorts 9 = .ok (.if_icmp .gt 43, 3) := by decide +kernel
theorem dX5_fittingSorts_12 : decode cX5_fittingSorts 12 = .ok (.aload_n 0, 1) := by decide +kernel
theorem dX5_fittingSorts_13 : decode cX5_fittingSorts 13 = .ok (.getfield 33, 3) := by decide +kernel
theorem dX5_fittingSorts_16 : decode cX5_fittingSorts 16 = .ok (.iload 6, 2) := by decide +kernel
theorem dX5_fittingSorts_18 : decode cX5_fittingSorts 18 = .ok (.aload_n 0, 1) := by decide +kernel
theorem dX5_fittingSorts_19 : decode cX5_fittingSorts 19 = .ok (.getfield 33, 3) := by decide +kernel
theorem dX5_fittingSorts_22 : decode cX5_fittingSorts 22 = .ok (.getfield 159, 3) := by decide +kernel
theorem dX5_fittingSorts_25 : decode cX5_fittingSorts 25 = .ok (.iload_n 1, 1) := by decide +kernel
theorem dX5_fittingSorts_26 : decode cX5_fittingSorts 26 = .ok (.iaload, 1) := by decide +kernel
theorem dX5_fittingSorts_27 : decode cX5_fittingSorts 27 = .ok (.aload_n 2, 1) := by decide +kernel
theorem dX5_fittingSorts_28 : decode cX5_fittingSorts 28 = .ok (.iload_n 3, 1) := by decide +kernel
theorem dX5_fittingSorts_29 : decode cX5_fittingSorts 29 = .ok (.iload 4, 2) := by decide +kernel
theorem dX5_fittingSorts_31 : decode cX5_fittingSorts 31 = .ok (.invokevirtual 303, 3) := by decide +kernel
theorem dX5_fittingSorts_34 : decode cX5_fittingSorts 34 = .ok (.ifCond .eq 12, 3) := by decide +kernel
theorem dX5_fittingSorts_37 : decode cX5_fittingSorts 37 = .ok (.iload 5, 2) := by decide +kernel
theorem dX5_fittingSorts_39 : decode cX5_fittingSorts 39 = .ok (.iconst 1, 1) := by decide +kernel
theorem dX5_fittingSorts_40 : decode cX5_fittingSorts 40 = .ok (.iload 6, 2) := by decide +kernel
theorem dX5_fittingSorts_42 : decode cX5_fittingSorts 42 = .ok (.ishl, 1) := by decide +kernel
theorem dX5_fittingSorts_43 : decode cX5_fittingSorts 43 = .ok (.ior, 1) := by decide +kernel
theorem dX5_fittingSorts_44 : decode cX5_fittingSorts 44 = .ok (.istore 5, 2) := by decide +kernel
theorem dX5_fittingSorts_46 : decode cX5_fittingSorts 46 = .ok (.iinc 6 1, 3) := by decide +kernel
theorem dX5_fittingSorts_49 : decode cX5_fittingSorts 49 = .ok (.goto (-43), 3) := by decide +kernel
theorem dX5_fittingSorts_52 : decode cX5_fittingSorts 52 = .ok (.iload 5, 2) := by decide +kernel
theorem dX5_fittingSorts_54 : decode cX5_fittingSorts 54 = .ok (.ireturn, 1) := by decide +kernel
theorem dX5_fittingStarts_0 : decode cX5_fittingStarts 0 = .ok (.iconst 0, 1) := by decide +kernel
theorem dX5_fittingStarts_1 : decode cX5_fittingStarts 1 = .ok (.istore 5, 2) := by decide +kernel
theorem dX5_fittingStarts_3 : decode cX5_fittingStarts 3 = .ok (.iconst 0, 1) := by decide +kernel
theorem dX5_fittingStarts_4 : decode cX5_fittingStarts 4 = .ok (.istore 6, 2) := by decide +kernel
theorem dX5_fittingStarts_6 : decode cX5_fittingStarts 6 = .ok (.iload 6, 2) := by decide +kernel
theorem dX5_fittingStarts_8 : decode cX5_fittingStarts 8 = .ok (.aload_n 0, 1) := by decide +kernel
theorem dX5_fittingStarts_9 : decode cX5_fittingStarts 9 = .ok (.getfield 33, 3) := by decide +kernel
theorem dX5_fittingStarts_12 : decode cX5_fittingStarts 12 = .ok (.getfield 127, 3) := by decide +kernel
theorem dX5_fittingStarts_15 : decode cX5_fittingStarts 15 = .ok (.if_icmp .ge 58, 3) := by decide +kernel
theorem dX5_fittingStarts_18 : decode cX5_fittingStarts 18 = .ok (.aload_n 0, 1) := by decide +kernel
theorem dX5_fittingStarts_19 : decode cX5_fittingStarts 19 = .ok (.getfield 33, 3) := by decide +kernel
theorem dX5_fittingStarts_22 : decode cX5_fittingStarts 22 = .ok (.iload_n 1, 1) := by decide +kernel
theorem dX5_fittingStarts_23 : decode cX5_fittingStarts 23 = .ok (.invokevirtual 156, 3) := by decide +kernel
theorem dX5_fittingStarts_26 : decode cX5_fittingStarts 26 = .ok (.iload 6, 2) := by decide +kernel
theorem dX5_fittingStarts_28 : decode cX5_fittingStarts 28 = .ok (.invokestatic 163, 3) := by decide +kernel
theorem dX5_fittingStarts_31 : decode cX5_fittingStarts 31 = .ok (.istore 7, 2) := by decide +kernel
theorem dX5_fittingStarts_33 : decode cX5_fittingStarts 33 = .ok (.aload_n 0, 1) := by decide +kernel
theorem dX5_fittingStarts_34 : decode cX5_fittingStarts 34 = .ok (.getfield 33, 3) := by decide +kernel
theorem dX5_fittingStarts_37 : decode cX5_fittingStarts 37 = .ok (.aload_n 0, 1) := by decide +kernel
theorem dX5_fittingStarts_38 : decode cX5_fittingStarts 38 = .ok (.getfield 33, 3) := by decide +kernel
theorem dX5_fittingStarts_41 : decode cX5_fittingStarts 41 = .ok (.getfield 255, 3) := by decide +kernel
theorem dX5_fittingStarts_44 : decode cX5_fittingStarts 44 = .ok (.iload_n 1, 1) := by decide +kernel
theorem dX5_fittingStarts_45 : decode cX5_fittingStarts 45 = .ok (.iaload, 1) := by decide +kernel
theorem dX5_fittingStarts_46 : decode cX5_fittingStarts 46 = .ok (.iload 7, 2) := by decide +kernel
theorem dX5_fittingStarts_48 : decode cX5_fittingStarts 48 = .ok (.aload_n 2, 1) := by decide +kernel
theorem dX5_fittingStarts_49 : decode cX5_fittingStarts 49 = .ok (.iload_n 3, 1) := by decide +kernel
theorem dX5_fittingStarts_50 : decode cX5_fittingStarts 50 = .ok (.iload 4, 2) := by decide +kernel
theorem dX5_fittingStarts_52 : decode cX5_fittingStarts 52 = .ok (.invokevirtual 303, 3) := by decide +kernel
theorem dX5_fittingStarts_55 : decode cX5_fittingStarts 55 = .ok (.ifCond .eq 12, 3) := by decide +kernel
theorem dX5_fittingStarts_58 : decode cX5_fittingStarts 58 = .ok (.iload 5, 2) := by decide +kernel
theorem dX5_fittingStarts_60 : decode cX5_fittingStarts 60 = .ok (.iconst 1, 1) := by decide +kernel
theorem dX5_fittingStarts_61 : decode cX5_fittingStarts 61 = .ok (.iload 6, 2) := by decide +kernel
theorem dX5_fittingStarts_63 : decode cX5_fittingStarts 63 = .ok (.ishl, 1) := by decide +kernel
theorem dX5_fittingStarts_64 : decode cX5_fittingStarts 64 = .ok (.ior, 1) := by decide +kernel
theorem dX5_fittingStarts_65 : decode cX5_fittingStarts 65 = .ok (.istore 5, 2) := by decide +kernel
theorem dX5_fittingStarts_67 : decode cX5_fittingStarts 67 = .ok (.iinc 6 1, 3) := by decide +kernel
theorem dX5_fittingStarts_70 : decode cX5_fittingStarts 70 = .ok (.goto (-64), 3) := by decide +kernel
theorem dX5_fittingStarts_73 : decode cX5_fittingStarts 73 = .ok (.iload 5, 2) := by decide +kernel
theorem dX5_fittingStarts_75 : decode cX5_fittingStarts 75 = .ok (.ireturn, 1) := by decide +kernel
theorem dX5_fittingRains_0 : decode cX5_fittingRains 0 = .ok (.aload_n 0, 1) := by decide +kernel
theorem dX5_fittingRains_1 : decode cX5_fittingRains 1 = .ok (.getfield 37, 3) := by decide +kernel
theorem dX5_fittingRains_4 : decode cX5_fittingRains 4 = .ok (.aload_n 0, 1) := by decide +kernel
theorem dX5_fittingRains_5 : decode cX5_fittingRains 5 = .ok (.getfield 33, 3) := by decide +kernel
theorem dX5_fittingRains_8 : decode cX5_fittingRains 8 = .ok (.invokevirtual 120, 3) := by decide +kernel
theorem dX5_fittingRains_11 : decode cX5_fittingRains 11 = .ok (.iconst 0, 1) := by decide +kernel
theorem dX5_fittingRains_12 : decode cX5_fittingRains 12 = .ok (.istore 5, 2) := by decide +kernel
theorem dX5_fittingRains_14 : decode cX5_fittingRains 14 = .ok (.iconst 0, 1) := by decide +kernel
theorem dX5_fittingRains_15 : decode cX5_fittingRains 15 = .ok (.istore 6, 2) := by decide +kernel
theorem dX5_fittingRains_17 : decode cX5_fittingRains 17 = .ok (.iload 6, 2) := by decide +kernel
theorem dX5_fittingRains_19 : decode cX5_fittingRains 19 = .ok (.bipush 15, 2) := by decide +kernel
theorem dX5_fittingRains_21 : decode cX5_fittingRains 21 = .ok (.if_icmp .gt 59, 3) := by decide +kernel
theorem dX5_fittingRains_24 : decode cX5_fittingRains 24 = .ok (.aload_n 0, 1) := by decide +kernel
theorem dX5_fittingRains_25 : decode cX5_fittingRains 25 = .ok (.getfield 37, 3) := by decide +kernel
theorem dX5_fittingRains_28 : decode cX5_fittingRains 28 = .ok (.iload 6, 2) := by decide +kernel
theorem dX5_fittingRains_30 : decode cX5_fittingRains 30 = .ok (.putfield 170, 3) := by decide +kernel
theorem dX5_fittingRains_33 : decode cX5_fittingRains 33 = .ok (.aload_n 0, 1) := by decide +kernel
theorem dX5_fittingRains_34 : decode cX5_fittingRains 34 = .ok (.getfield 37, 3) := by decide +kernel
theorem dX5_fittingRains_37 : decode cX5_fittingRains 37 = .ok (.aload_n 0, 1) := by decide +kernel
theorem dX5_fittingRains_38 : decode cX5_fittingRains 38 = .ok (.getfield 37, 3) := by decide +kernel
theorem dX5_fittingRains_41 : decode cX5_fittingRains 41 = .ok (.getfield 255, 3) := by decide +kernel
theorem dX5_fittingRains_44 : decode cX5_fittingRains 44 = .ok (.iload_n 1, 1) := by decide +kernel
theorem dX5_fittingRains_45 : decode cX5_fittingRains 45 = .ok (.iaload, 1) := by decide +kernel
theorem dX5_fittingRains_46 : decode cX5_fittingRains 46 = .ok (.aload_n 0, 1) := by decide +kernel
theorem dX5_fittingRains_47 : decode cX5_fittingRains 47 = .ok (.getfield 37, 3) := by decide +kernel
theorem dX5_fittingRains_50 : decode cX5_fittingRains 50 = .ok (.getfield 159, 3) := by decide +kernel
theorem dX5_fittingRains_53 : decode cX5_fittingRains 53 = .ok (.iload_n 1, 1) := by decide +kernel
theorem dX5_fittingRains_54 : decode cX5_fittingRains 54 = .ok (.iaload, 1) := by decide +kernel
theorem dX5_fittingRains_55 : decode cX5_fittingRains 55 = .ok (.aload_n 2, 1) := by decide +kernel
theorem dX5_fittingRains_56 : decode cX5_fittingRains 56 = .ok (.iload_n 3, 1) := by decide +kernel
theorem dX5_fittingRains_57 : decode cX5_fittingRains 57 = .ok (.iload 4, 2) := by decide +kernel
theorem dX5_fittingRains_59 : decode cX5_fittingRains 59 = .ok (.invokevirtual 303, 3) := by decide +kernel
theorem dX5_fittingRains_62 : decode cX5_fittingRains 62 = .ok (.ifCond .eq 12, 3) := by decide +kernel
theorem dX5_fittingRains_65 : decode cX5_fittingRains 65 = .ok (.iload 5, 2) := by decide +kernel
theorem dX5_fittingRains_67 : decode cX5_fittingRains 67 = .ok (.iconst 1, 1) := by decide +kernel
theorem dX5_fittingRains_68 : decode cX5_fittingRains 68 = .ok (.iload 6, 2) := by decide +kernel
theorem dX5_fittingRains_70 : decode cX5_fittingRains 70 = .ok (.ishl, 1) := by decide +kernel
theorem dX5_fittingRains_71 : decode cX5_fittingRains 71 = .ok (.ior, 1) := by decide +kernel
theorem dX5_fittingRains_72 : decode cX5_fittingRains 72 = .ok (.istore 5, 2) := by decide +kernel
theorem dX5_fittingRains_74 : decode cX5_fittingRains 74 = .ok (.iinc 6 1, 3) := by decide +kernel
theorem dX5_fittingRains_77 : decode cX5_fittingRains 77 = .ok (.goto (-60), 3) := by decide +kernel
theorem dX5_fittingRains_80 : decode cX5_fittingRains 80 = .ok (.iload 5, 2) := by decide +kernel
theorem dX5_fittingRains_82 : decode cX5_fittingRains 82 = .ok (.ireturn, 1) := by decide +kernel
theorem dX5_fittingSizes_0 : decode cX5_fittingSizes 0 = .ok (.iconst 0, 1) := by decide +kernel
theorem dX5_fittingSizes_1 : decode cX5_fittingSizes 1 = .ok (.istore 5, 2) := by decide +kernel
theorem dX5_fittingSizes_3 : decode cX5_fittingSizes 3 = .ok (.iconst 1, 1) := by decide +kernel
theorem dX5_fittingSizes_4 : decode cX5_fittingSizes 4 = .ok (.istore 6, 2) := by decide +kernel
theorem dX5_fittingSizes_6 : decode cX5_fittingSizes 6 = .ok (.iload 6, 2) := by decide +kernel
theorem dX5_fittingSizes_8 : decode cX5_fittingSizes 8 = .ok (.bipush 60, 2) := by decide +kernel
theorem dX5_fittingSizes_10 : decode cX5_fittingSizes 10 = .ok (.if_icmp .gt 26, 3) := by decide +kernel
theorem dX5_fittingSizes_13 : decode cX5_fittingSizes 13 = .ok (.aload_n 0, 1) := by decide +kernel
theorem dX5_fittingSizes_14 : decode cX5_fittingSizes 14 = .ok (.iload_n 1, 1) := by decide +kernel
theorem dX5_fittingSizes_15 : decode cX5_fittingSizes 15 = .ok (.iload 6, 2) := by decide +kernel
theorem dX5_fittingSizes_17 : decode cX5_fittingSizes 17 = .ok (.aload_n 2, 1) := by decide +kernel
theorem dX5_fittingSizes_18 : decode cX5_fittingSizes 18 = .ok (.iload_n 3, 1) := by decide +kernel
theorem dX5_fittingSizes_19 : decode cX5_fittingSizes 19 = .ok (.iload 4, 2) := by decide +kernel
theorem dX5_fittingSizes_21 : decode cX5_fittingSizes 21 = .ok (.invokevirtual 307, 3) := by decide +kernel
theorem dX5_fittingSizes_24 : decode cX5_fittingSizes 24 = .ok (.ifCond .eq 6, 3) := by decide +kernel
theorem dX5_fittingSizes_27 : decode cX5_fittingSizes 27 = .ok (.iinc 5 1, 3) := by decide +kernel
theorem dX5_fittingSizes_30 : decode cX5_fittingSizes 30 = .ok (.iinc 6 1, 3) := by decide +kernel
theorem dX5_fittingSizes_33 : decode cX5_fittingSizes 33 = .ok (.goto (-27), 3) := by decide +kernel
theorem dX5_fittingSizes_36 : decode cX5_fittingSizes 36 = .ok (.iload 5, 2) := by decide +kernel
theorem dX5_fittingSizes_38 : decode cX5_fittingSizes 38 = .ok (.ireturn, 1) := by decide +kernel
theorem dX5_leastFittingSize_0 : decode cX5_leastFittingSize 0 = .ok (.iconst 1, 1) := by decide +kernel
theorem dX5_leastFittingSize_1 : decode cX5_leastFittingSize 1 = .ok (.istore 5, 2) := by decide +kernel
theorem dX5_leastFittingSize_3 : decode cX5_leastFittingSize 3 = .ok (.iload 5, 2) := by decide +kernel
theorem dX5_leastFittingSize_5 : decode cX5_leastFittingSize 5 = .ok (.bipush 60, 2) := by decide +kernel
theorem dX5_leastFittingSize_7 : decode cX5_leastFittingSize 7 = .ok (.if_icmp .gt 26, 3) := by decide +kernel
theorem dX5_leastFittingSize_10 : decode cX5_leastFittingSize 10 = .ok (.aload_n 0, 1) := by decide +kernel
theorem dX5_leastFittingSize_11 : decode cX5_leastFittingSize 11 = .ok (.iload_n 1, 1) := by decide +kernel
theorem dX5_leastFittingSize_12 : decode cX5_leastFittingSize 12 = .ok (.iload 5, 2) := by decide +kernel
theorem dX5_leastFittingSize_14 : decode cX5_leastFittingSize 14 = .ok (.aload_n 2, 1) := by decide +kernel
theorem dX5_leastFittingSize_15 : decode cX5_leastFittingSize 15 = .ok (.iload_n 3, 1) := by decide +kernel
theorem dX5_leastFittingSize_16 : decode cX5_leastFittingSize 16 = .ok (.iload 4, 2) := by decide +kernel
theorem dX5_leastFittingSize_18 : decode cX5_leastFittingSize 18 = .ok (.invokevirtual 307, 3) := by decide +kernel
theorem dX5_leastFittingSize_21 : decode cX5_leastFittingSize 21 = .ok (.ifCond .eq 6, 3) := by decide +kernel
theorem dX5_leastFittingSize_24 : decode cX5_leastFittingSize 24 = .ok (.iload 5, 2) := by decide +kernel
theorem dX5_leastFittingSize_26 : decode cX5_leastFittingSize 26 = .ok (.ireturn, 1) := by decide +kernel
theorem dX5_leastFittingSize_27 : decode cX5_leastFittingSize 27 = .ok (.iinc 5 1, 3) := by decide +kernel
theorem dX5_leastFittingSize_30 : decode cX5_leastFittingSize 30 = .ok (.goto (-27), 3) := by decide +kernel
theorem dX5_leastFittingSize_33 : decode cX5_leastFittingSize 33 = .ok (.ldc 210, 2) := by decide +kernel
theorem dX5_leastFittingSize_35 : decode cX5_leastFittingSize 35 = .ok (.ireturn, 1) := by decide +kernel
theorem dX5_fitsSize_0 : decode cX5_fitsSize 0 = .ok (.iload_n 2, 1) := by decide +kernel
theorem dX5_fitsSize_1 : decode cX5_fitsSize 1 = .ok (.aload_n 0, 1) := by decide +kernel
theorem dX5_fitsSize_2 : decode cX5_fitsSize 2 = .ok (.getfield 33, 3) := by decide +kernel
theorem dX5_fitsSize_5 : decode cX5_fitsSize 5 = .ok (.getfield 159, 3) := by decide +kernel
theorem dX5_fitsSize_8 : decode cX5_fitsSize 8 = .ok (.iload_n 1, 1) := by decide +kernel
theorem dX5_fitsSize_9 : decode cX5_fitsSize 9 = .ok (.iaload, 1) := by decide +kernel
theorem dX5_fitsSize_10 : decode cX5_fitsSize 10 = .ok (.invokestatic 182, 3) := by decide +kernel
theorem dX5_fitsSize_13 : decode cX5_fitsSize 13 = .ok (.invokestatic 163, 3) := by decide +kernel
theorem dX5_fitsSize_16 : decode cX5_fitsSize 16 = .ok (.istore 6, 2) := by decide +kernel
theorem dX5_fitsSize_18 : decode cX5_fitsSize 18 = .ok (.aload_n 0, 1) := by decide +kernel
theorem dX5_fitsSize_19 : decode cX5_fitsSize 19 = .ok (.getfield 33, 3) := by decide +kernel
theorem dX5_fitsSize_22 : decode cX5_fitsSize 22 = .ok (.aload_n 0, 1) := by decide +kernel
theorem dX5_fitsSize_23 : decode cX5_fitsSize 23 = .ok (.getfield 33, 3) := by decide +kernel
theorem dX5_fitsSize_26 : decode cX5_fitsSize 26 = .ok (.getfield 255, 3) := by decide +kernel
theorem dX5_fitsSize_29 : decode cX5_fitsSize 29 = .ok (.iload_n 1, 1) := by decide +kernel
theorem dX5_fitsSize_30 : decode cX5_fitsSize 30 = .ok (.iaload, 1) := by decide +kernel
theorem dX5_fitsSize_31 : decode cX5_fitsSize 31 = .ok (.iload 6, 2) := by decide +kernel
theorem dX5_fitsSize_33 : decode cX5_fitsSize 33 = .ok (.aload_n 3, 1) := by decide +kernel
theorem dX5_fitsSize_34 : decode cX5_fitsSize 34 = .ok (.iload 4, 2) := by decide +kernel
theorem dX5_fitsSize_36 : decode cX5_fitsSize 36 = .ok (.iload 5, 2) := by decide +kernel
theorem dX5_fitsSize_38 : decode cX5_fitsSize 38 = .ok (.invokevirtual 303, 3) := by decide +kernel
theorem dX5_fitsSize_41 : decode cX5_fitsSize 41 = .ok (.ireturn, 1) := by decide +kernel
theorem dX5_power_0 : decode cX5_power 0 = .ok (.iconst 1, 1) := by decide +kernel
theorem dX5_power_1 : decode cX5_power 1 = .ok (.istore_n 2, 1) := by decide +kernel
theorem dX5_power_2 : decode cX5_power 2 = .ok (.iconst 0, 1) := by decide +kernel
theorem dX5_power_3 : decode cX5_power 3 = .ok (.istore_n 3, 1) := by decide +kernel
theorem dX5_power_4 : decode cX5_power 4 = .ok (.iload_n 3, 1) := by decide +kernel
theorem dX5_power_5 : decode cX5_power 5 = .ok (.iload_n 1, 1) := by decide +kernel
theorem dX5_power_6 : decode cX5_power 6 = .ok (.if_icmp .ge 13, 3) := by decide +kernel
theorem dX5_power_9 : decode cX5_power 9 = .ok (.iload_n 2, 1) := by decide +kernel
theorem dX5_power_10 : decode cX5_power 10 = .ok (.iload_n 0, 1) := by decide +kernel
theorem dX5_power_11 : decode cX5_power 11 = .ok (.imul, 1) := by decide +kernel
theorem dX5_power_12 : decode cX5_power 12 = .ok (.istore_n 2, 1) := by decide +kernel
theorem dX5_power_13 : decode cX5_power 13 = .ok (.iinc 3 1, 3) := by decide +kernel
theorem dX5_power_16 : decode cX5_power 16 = .ok (.goto (-12), 3) := by decide +kernel
theorem dX5_power_19 : decode cX5_power 19 = .ok (.iload_n 2, 1) := by decide +kernel
theorem dX5_power_20 : decode cX5_power 20 = .ok (.ireturn, 1) := by decide +kernel
theorem dX5_commonDivisor_0 : decode cX5_commonDivisor 0 = .ok (.iload_n 0, 1) := by decide +kernel
theorem dX5_commonDivisor_1 : decode cX5_commonDivisor 1 = .ok (.istore_n 2, 1) := by decide +kernel
theorem dX5_commonDivisor_2 : decode cX5_commonDivisor 2 = .ok (.iload_n 1, 1) := by decide +kernel
theorem dX5_commonDivisor_3 : decode cX5_commonDivisor 3 = .ok (.istore_n 3, 1) := by decide +kernel
theorem dX5_commonDivisor_4 : decode cX5_commonDivisor 4 = .ok (.iconst 0, 1) := by decide +kernel
theorem dX5_commonDivisor_5 : decode cX5_commonDivisor 5 = .ok (.istore 4, 2) := by decide +kernel
theorem dX5_commonDivisor_7 : decode cX5_commonDivisor 7 = .ok (.iload 4, 2) := by decide +kernel
theorem dX5_commonDivisor_9 : decode cX5_commonDivisor 9 = .ok (.bipush 100, 2) := by decide +kernel
theorem dX5_commonDivisor_11 : decode cX5_commonDivisor 11 = .ok (.if_icmp .ge 23, 3) := by decide +kernel
theorem dX5_commonDivisor_14 : decode cX5_commonDivisor 14 = .ok (.iload_n 2, 1) := by decide +kernel
theorem dX5_commonDivisor_15 : decode cX5_commonDivisor 15 = .ok (.ifCond .eq 19, 3) := by decide +kernel
theorem dX5_commonDivisor_18 : decode cX5_commonDivisor 18 = .ok (.iload_n 3, 1) := by decide +kernel
theorem dX5_commonDivisor_19 : decode cX5_commonDivisor 19 = .ok (.iload_n 2, 1) := by decide +kernel
theorem dX5_commonDivisor_20 : decode cX5_commonDivisor 20 = .ok (.irem, 1) := by decide +kernel
theorem dX5_commonDivisor_21 : decode cX5_commonDivisor 21 = .ok (.istore 5, 2) := by decide +kernel
theorem dX5_commonDivisor_23 : decode cX5_commonDivisor 23 = .ok (.iload_n 2, 1) := by decide +kernel
theorem dX5_commonDivisor_24 : decode cX5_commonDivisor 24 = .ok (.istore_n 3, 1) := by decide +kernel
theorem dX5_commonDivisor_25 : decode cX5_commonDivisor 25 = .ok (.iload 5, 2) := by decide +kernel
theorem dX5_commonDivisor_27 : decode cX5_commonDivisor 27 = .ok (.istore_n 2, 1) := by decide +kernel
theorem dX5_commonDivisor_28 : decode cX5_commonDivisor 28 = .ok (.iinc 4 1, 3) := by decide +kernel
theorem dX5_commonDivisor_31 : decode cX5_commonDivisor 31 = .ok (.goto (-24), 3) := by decide +kernel
theorem dX5_commonDivisor_34 : decode cX5_commonDivisor 34 = .ok (.iload_n 3, 1) := by decide +kernel
theorem dX5_commonDivisor_35 : decode cX5_commonDivisor 35 = .ok (.ireturn, 1) := by decide +kernel
theorem dJ6_bitCount_0f7a4_0 : decode cJ6_bitCount_0f7a4 0 = .ok (.iload_n 0, 1) := by decide +kernel
theorem dJ6_bitCount_0f7a4_1 : decode cJ6_bitCount_0f7a4 1 = .ok (.iload_n 0, 1) := by decide +kernel
theorem dJ6_bitCount_0f7a4_2 : decode cJ6_bitCount_0f7a4 2 = .ok (.iconst 1, 1) := by decide +kernel
theorem dJ6_bitCount_0f7a4_3 : decode cJ6_bitCount_0f7a4 3 = .ok (.iushr, 1) := by decide +kernel
theorem dJ6_bitCount_0f7a4_4 : decode cJ6_bitCount_0f7a4 4 = .ok (.ldc_w 265, 3) := by decide +kernel
theorem dJ6_bitCount_0f7a4_7 : decode cJ6_bitCount_0f7a4 7 = .ok (.iand, 1) := by decide +kernel
theorem dJ6_bitCount_0f7a4_8 : decode cJ6_bitCount_0f7a4 8 = .ok (.isub, 1) := by decide +kernel
theorem dJ6_bitCount_0f7a4_9 : decode cJ6_bitCount_0f7a4 9 = .ok (.istore_n 0, 1) := by decide +kernel
theorem dJ6_bitCount_0f7a4_10 : decode cJ6_bitCount_0f7a4 10 = .ok (.iload_n 0, 1) := by decide +kernel
theorem dJ6_bitCount_0f7a4_11 : decode cJ6_bitCount_0f7a4 11 = .ok (.ldc_w 266, 3) := by decide +kernel
theorem dJ6_bitCount_0f7a4_14 : decode cJ6_bitCount_0f7a4 14 = .ok (.iand, 1) := by decide +kernel
theorem dJ6_bitCount_0f7a4_15 : decode cJ6_bitCount_0f7a4 15 = .ok (.iload_n 0, 1) := by decide +kernel
theorem dJ6_bitCount_0f7a4_16 : decode cJ6_bitCount_0f7a4 16 = .ok (.iconst 2, 1) := by decide +kernel
theorem dJ6_bitCount_0f7a4_17 : decode cJ6_bitCount_0f7a4 17 = .ok (.iushr, 1) := by decide +kernel
theorem dJ6_bitCount_0f7a4_18 : decode cJ6_bitCount_0f7a4 18 = .ok (.ldc_w 266, 3) := by decide +kernel
theorem dJ6_bitCount_0f7a4_21 : decode cJ6_bitCount_0f7a4 21 = .ok (.iand, 1) := by decide +kernel
theorem dJ6_bitCount_0f7a4_22 : decode cJ6_bitCount_0f7a4 22 = .ok (.iadd, 1) := by decide +kernel
theorem dJ6_bitCount_0f7a4_23 : decode cJ6_bitCount_0f7a4 23 = .ok (.istore_n 0, 1) := by decide +kernel
theorem dJ6_bitCount_0f7a4_24 : decode cJ6_bitCount_0f7a4 24 = .ok (.iload_n 0, 1) := by decide +kernel
theorem dJ6_bitCount_0f7a4_25 : decode cJ6_bitCount_0f7a4 25 = .ok (.iload_n 0, 1) := by decide +kernel
theorem dJ6_bitCount_0f7a4_26 : decode cJ6_bitCount_0f7a4 26 = .ok (.iconst 4, 1) := by decide +kernel
theorem dJ6_bitCount_0f7a4_27 : decode cJ6_bitCount_0f7a4 27 = .ok (.iushr, 1) := by decide +kernel
theorem dJ6_bitCount_0f7a4_28 : decode cJ6_bitCount_0f7a4 28 = .ok (.iadd, 1) := by decide +kernel
theorem dJ6_bitCount_0f7a4_29 : decode cJ6_bitCount_0f7a4 29 = .ok (.ldc_w 267, 3) := by decide +kernel
theorem dJ6_bitCount_0f7a4_32 : decode cJ6_bitCount_0f7a4 32 = .ok (.iand, 1) := by decide +kernel
theorem dJ6_bitCount_0f7a4_33 : decode cJ6_bitCount_0f7a4 33 = .ok (.istore_n 0, 1) := by decide +kernel
theorem dJ6_bitCount_0f7a4_34 : decode cJ6_bitCount_0f7a4 34 = .ok (.iload_n 0, 1) := by decide +kernel
theorem dJ6_bitCount_0f7a4_35 : decode cJ6_bitCount_0f7a4 35 = .ok (.iload_n 0, 1) := by decide +kernel
theorem dJ6_bitCount_0f7a4_36 : decode cJ6_bitCount_0f7a4 36 = .ok (.bipush 8, 2) := by decide +kernel
theorem dJ6_bitCount_0f7a4_38 : decode cJ6_bitCount_0f7a4 38 = .ok (.iushr, 1) := by decide +kernel
theorem dJ6_bitCount_0f7a4_39 : decode cJ6_bitCount_0f7a4 39 = .ok (.iadd, 1) := by decide +kernel
theorem dJ6_bitCount_0f7a4_40 : decode cJ6_bitCount_0f7a4 40 = .ok (.istore_n 0, 1) := by decide +kernel
theorem dJ6_bitCount_0f7a4_41 : decode cJ6_bitCount_0f7a4 41 = .ok (.iload_n 0, 1) := by decide +kernel
theorem dJ6_bitCount_0f7a4_42 : decode cJ6_bitCount_0f7a4 42 = .ok (.iload_n 0, 1) := by decide +kernel
theorem dJ6_bitCount_0f7a4_43 : decode cJ6_bitCount_0f7a4 43 = .ok (.bipush 16, 2) := by decide +kernel
theorem dJ6_bitCount_0f7a4_45 : decode cJ6_bitCount_0f7a4 45 = .ok (.iushr, 1) := by decide +kernel
theorem dJ6_bitCount_0f7a4_46 : decode cJ6_bitCount_0f7a4 46 = .ok (.iadd, 1) := by decide +kernel
theorem dJ6_bitCount_0f7a4_47 : decode cJ6_bitCount_0f7a4 47 = .ok (.istore_n 0, 1) := by decide +kernel
theorem dJ6_bitCount_0f7a4_48 : decode cJ6_bitCount_0f7a4 48 = .ok (.iload_n 0, 1) := by decide +kernel
theorem dJ6_bitCount_0f7a4_49 : decode cJ6_bitCount_0f7a4 49 = .ok (.bipush 63, 2) := by decide +kernel
theorem dJ6_bitCount_0f7a4_51 : decode cJ6_bitCount_0f7a4 51 = .ok (.iand, 1) := by decide +kernel
theorem dJ6_bitCount_0f7a4_52 : decode cJ6_bitCount_0f7a4 52 = .ok (.ireturn, 1) := by decide +kernel
theorem dJ9_min_7cf53_0 : decode cJ9_min_7cf53 0 = .ok (.iload_n 0, 1) := by decide +kernel
theorem dJ9_min_7cf53_1 : decode cJ9_min_7cf53 1 = .ok (.iload_n 1, 1) := by decide +kernel
theorem dJ9_min_7cf53_2 : decode cJ9_min_7cf53 2 = .ok (.if_icmp .gt 7, 3) := by decide +kernel
theorem dJ9_min_7cf53_5 : decode cJ9_min_7cf53 5 = .ok (.iload_n 0, 1) := by decide +kernel
theorem dJ9_min_7cf53_6 : decode cJ9_min_7cf53 6 = .ok (.goto 4, 3) := by decide +kernel
theorem dJ9_min_7cf53_9 : decode cJ9_min_7cf53 9 = .ok (.iload_n 1, 1) := by decide +kernel
theorem dJ9_min_7cf53_10 : decode cJ9_min_7cf53 10 = .ok (.ireturn, 1) := by decide +kernel
theorem dJ7_fill_53178_0 : decode cJ7_fill_53178 0 = .ok (.iconst 0, 1) := by decide +kernel
theorem dJ7_fill_53178_1 : decode cJ7_fill_53178 1 = .ok (.istore_n 2, 1) := by decide +kernel
theorem dJ7_fill_53178_2 : decode cJ7_fill_53178 2 = .ok (.aload_n 0, 1) := by decide +kernel
theorem dJ7_fill_53178_3 : decode cJ7_fill_53178 3 = .ok (.arraylength, 1) := by decide +kernel
theorem dJ7_fill_53178_4 : decode cJ7_fill_53178 4 = .ok (.istore_n 3, 1) := by decide +kernel
theorem dJ7_fill_53178_5 : decode cJ7_fill_53178 5 = .ok (.iload_n 2, 1) := by decide +kernel
theorem dJ7_fill_53178_6 : decode cJ7_fill_53178 6 = .ok (.iload_n 3, 1) := by decide +kernel
theorem dJ7_fill_53178_7 : decode cJ7_fill_53178 7 = .ok (.if_icmp .ge 13, 3) := by decide +kernel
theorem dJ7_fill_53178_10 : decode cJ7_fill_53178 10 = .ok (.aload_n 0, 1) := by decide +kernel
theorem dJ7_fill_53178_11 : decode cJ7_fill_53178 11 = .ok (.iload_n 2, 1) := by decide +kernel
theorem dJ7_fill_53178_12 : decode cJ7_fill_53178 12 = .ok (.iload_n 1, 1) := by decide +kernel
theorem dJ7_fill_53178_13 : decode cJ7_fill_53178 13 = .ok (.iastore, 1) := by decide +kernel
theorem dJ7_fill_53178_14 : decode cJ7_fill_53178 14 = .ok (.iinc 2 1, 3) := by decide +kernel
theorem dJ7_fill_53178_17 : decode cJ7_fill_53178 17 = .ok (.goto (-12), 3) := by decide +kernel
theorem dJ7_fill_53178_20 : decode cJ7_fill_53178 20 = .ok (.return_, 1) := by decide +kernel
end
section
theorem dX6_init_0 : decode cX6_init 0 = .ok (.aload_n 0, 1) := by decide +kernel
theorem dX6_init_1 : decode cX6_init 1 = .ok (.invokespecial 1, 3) := by decide +kernel
theorem dX6_init_4 : decode cX6_init 4 = .ok (.aload_n 0, 1) := by decide +kernel
theorem dX6_init_5 : decode cX6_init 5 = .ok (.bipush 8, 2) := by decide +kernel
theorem dX6_init_7 : decode cX6_init 7 = .ok (.newarray .int, 2) := by decide +kernel
theorem dX6_init_9 : decode cX6_init 9 = .ok (.putfield 7, 3) := by decide +kernel
theorem dX6_init_12 : decode cX6_init 12 = .ok (.aload_n 0, 1) := by decide +kernel
theorem dX6_init_13 : decode cX6_init 13 = .ok (.bipush 8, 2) := by decide +kernel
theorem dX6_init_15 : decode cX6_init 15 = .ok (.newarray .int, 2) := by decide +kernel
theorem dX6_init_17 : decode cX6_init 17 = .ok (.putfield 13, 3) := by decide +kernel
theorem dX6_init_20 : decode cX6_init 20 = .ok (.aload_n 0, 1) := by decide +kernel
theorem dX6_init_21 : decode cX6_init 21 = .ok (.sipush 320, 3) := by decide +kernel
theorem dX6_init_24 : decode cX6_init 24 = .ok (.newarray .int, 2) := by decide +kernel
theorem dX6_init_26 : decode cX6_init 26 = .ok (.putfield 16, 3) := by decide +kernel
theorem dX6_init_29 : decode cX6_init 29 = .ok (.aload_n 0, 1) := by decide +kernel
theorem dX6_init_30 : decode cX6_init 30 = .ok (.bipush 40, 2) := by decide +kernel
theorem dX6_init_32 : decode cX6_init 32 = .ok (.newarray .int, 2) := by decide +kernel
theorem dX6_init_34 : decode cX6_init 34 = .ok (.putfield 19, 3) := by decide +kernel
theorem dX6_init_37 : decode cX6_init 37 = .ok (.aload_n 0, 1) := by decide +kernel
theorem dX6_init_38 : decode cX6_init 38 = .ok (.bipush 110, 2) := by decide +kernel
theorem dX6_init_40 : decode cX6_init 40 = .ok (.newarray .int, 2) := by decide +kernel
theorem dX6_init_42 : decode cX6_init 42 = .ok (.putfield 22, 3) := by decide +kernel
theorem dX6_init_45 : decode cX6_init 45 = .ok (.aload_n 0, 1) := by decide +kernel
theorem dX6_init_46 : decode cX6_init 46 = .ok (.bipush 45, 2) := by decide +kernel
theorem dX6_init_48 : decode cX6_init 48 = .ok (.newarray .int, 2) := by decide +kernel
theorem dX6_init_50 : decode cX6_init 50 = .ok (.putfield 25, 3) := by decide +kernel
theorem dX6_init_53 : decode cX6_init 53 = .ok (.aload_n 0, 1) := by decide +kernel
theorem dX6_init_54 : decode cX6_init 54 = .ok (.bipush 45, 2) := by decide +kernel
theorem dX6_init_56 : decode cX6_init 56 = .ok (.newarray .int, 2) := by decide +kernel
theorem dX6_init_58 : decode cX6_init 58 = .ok (.putfield 28, 3) := by decide +kernel
theorem dX6_init_61 : decode cX6_init 61 = .ok (.aload_n 0, 1) := by decide +kernel
theorem dX6_init_62 : decode cX6_init 62 = .ok (.bipush 45, 2) := by decide +kernel
theorem dX6_init_64 : decode cX6_init 64 = .ok (.newarray .int, 2) := by decide +kernel
theorem dX6_init_66 : decode cX6_init 66 = .ok (.putfield 31, 3) := by decide +kernel
theorem dX6_init_69 : decode cX6_init 69 = .ok (.aload_n 0, 1) := by decide +kernel
theorem dX6_init_70 : decode cX6_init 70 = .ok (.sipush 1080, 3) := by decide +kernel
theorem dX6_init_73 : decode cX6_init 73 = .ok (.newarray .int, 2) := by decide +kernel
theorem dX6_init_75 : decode cX6_init 75 = .ok (.putfield 34, 3) := by decide +kernel
theorem dX6_init_78 : decode cX6_init 78 = .ok (.aload_n 0, 1) := by decide +kernel
theorem dX6_init_79 : decode cX6_init 79 = .ok (.bipush 90, 2) := by decide +kernel
theorem dX6_init_81 : decode cX6_init 81 = .ok (.newarray .int, 2) := by decide +kernel
theorem dX6_init_83 : decode cX6_init 83 = .ok (.putfield 37, 3) := by decide +kernel
theorem dX6_init_86 : decode cX6_init 86 = .ok (.aload_n 0, 1) := by decide +kernel
theorem dX6_init_87 : decode cX6_init 87 = .ok (.iconst 2, 1) := by decide +kernel
theorem dX6_init_88 : decode cX6_init 88 = .ok (.newarray .boolean, 2) := by decide +kernel
theorem dX6_init_90 : decode cX6_init 90 = .ok (.putfield 40, 3) := by decide +kernel
theorem dX6_init_93 : decode cX6_init 93 = .ok (.aload_n 0, 1) := by decide +kernel
theorem dX6_init_94 : decode cX6_init 94 = .ok (.bipush 16, 2) := by decide +kernel
theorem dX6_init_96 : decode cX6_init 96 = .ok (.newarray .int, 2) := by decide +kernel
theorem dX6_init_98 : decode cX6_init 98 = .ok (.putfield 44, 3) := by decide +kernel
theorem dX6_init_101 : decode cX6_init 101 = .ok (.iconst 0, 1) := by decide +kernel
theorem dX6_init_102 : decode cX6_init 102 = .ok (.istore_n 1, 1) := by decide +kernel
theorem dX6_init_103 : decode cX6_init 103 = .ok (.iload_n 1, 1) := by decide +kernel
theorem dX6_init_104 : decode cX6_init 104 = .ok (.bipush 8, 2) := by decide +kernel
theorem dX6_init_106 : decode cX6_init 106 = .ok (.if_icmp .ge 17, 3) := by decide +kernel
theorem dX6_init_109 : decode cX6_init 109 = .ok (.aload_n 0, 1) := by decide +kernel
theorem dX6_init_110 : decode cX6_init 110 = .ok (.getfield 7, 3) := by decide +kernel
theorem dX6_init_113 : decode cX6_init 113 = .ok (.iload_n 1, 1) := by decide +kernel
theorem dX6_init_114 : decode cX6_init 114 = .ok (.ldc 47, 2) := by decide +kernel
theorem dX6_init_116 : decode cX6_init 116 = .ok (.iastore, 1) := by decide +kernel
theorem dX6_init_117 : decode cX6_init 117 = .ok (.iinc 1 1, 3) := by decide +kernel
theorem dX6_init_120 : decode cX6_init 120 = .ok (.goto (-17), 3) := by decide +kernel
theorem dX6_init_123 : decode cX6_init 123 = .ok (.return_, 1) := by decide +kernel
theorem dX6_in_0 : decode cX6_in 0 = .ok (.iload_n 0, 1) := by decide +kernel
theorem dX6_in_1 : decode cX6_in 1 = .ok (.iload_n 1, 1) := by decide +kernel
theorem dX6_in_2 : decode cX6_in 2 = .ok (.if_icmp .lt 12, 3) := by decide +kernel
theorem dX6_in_5 : decode cX6_in 5 = .ok (.iload_n 0, 1) := by decide +kernel
theorem dX6_in_6 : decode cX6_in 6 = .ok (.iload_n 2, 1) := by decide +kernel
theorem dX6_in_7 : decode cX6_in 7 = .ok (.if_icmp .gt 7, 3) := by decide +kernel
theorem dX6_in_10 : decode cX6_in 10 = .ok (.iconst 1, 1) := by decide +kernel
theorem dX6_in_11 : decode cX6_in 11 = .ok (.goto 4, 3) := by decide +kernel
theorem dX6_in_14 : decode cX6_in 14 = .ok (.iconst 0, 1) := by decide +kernel
theorem dX6_in_15 : decode cX6_in 15 = .ok (.ireturn, 1) := by decide +kernel
theorem dX6_has_0 : decode cX6_has 0 = .ok (.iload_n 0, 1) := by decide +kernel
theorem dX6_has_1 : decode cX6_has 1 = .ok (.iload_n 1, 1) := by decide +kernel
theorem dX6_has_2 : decode cX6_has 2 = .ok (.ishr, 1) := by decide +kernel
theorem dX6_has_3 : decode cX6_has 3 = .ok (.iconst 1, 1) := by decide +kernel
theorem dX6_has_4 : decode cX6_has 4 = .ok (.iand, 1) := by decide +kernel
theorem dX6_has_5 : decode cX6_has 5 = .ok (.iconst 1, 1) := by decide +kernel
theorem dX6_has_6 : decode cX6_has 6 = .ok (.if_icmp .ne 7, 3) := by decide +kernel
theorem dX6_has_9 : decode cX6_has 9 = .ok (.iconst 1, 1) := by decide +kernel
theorem dX6_has_10 : decode cX6_has 10 = .ok (.goto 4, 3) := by decide +kernel
theorem dX6_has_13 : decode cX6_has 13 = .ok (.iconst 0, 1) := by decide +kernel
theorem dX6_has_14 : decode cX6_has 14 = .ok (.ireturn, 1) := by decide +kernel
theorem dX6_ones_0 : decode cX6_ones 0 = .ok (.iconst 0, 1) := by decide +kernel
theorem dX6_ones_1 : decode cX6_ones 1 = .ok (.istore_n 1, 1) := by decide +kernel
theorem dX6_ones_2 : decode cX6_ones 2 = .ok (.iconst 0, 1) := by decide +kernel
theorem dX6_ones_3 : decode cX6_ones 3 = .ok (.istore_n 2, 1) := by decide +kernel
theorem dX6_ones_4 : decode cX6_ones 4 = .ok (.iload_n 2, 1) := by decide +kernel
theorem dX6_ones_5 : decode cX6_ones 5 = .ok (.bipush 12, 2) := by decide +kernel
theorem dX6_ones_7 : decode cX6_ones 7 = .ok (.if_icmp .ge 17, 3) := by decide +kernel
theorem dX6_ones_10 : decode cX6_ones 10 = .ok (.iload_n 1, 1) := by decide +kernel
theorem dX6_ones_11 : decode cX6_ones 11 = .ok (.iload_n 0, 1) := by decide +kernel
theorem dX6_ones_12 : decode cX6_ones 12 = .ok (.iload_n 2, 1) := by decide +kernel
theorem dX6_ones_13 : decode cX6_ones 13 = .ok (.ishr, 1) := by decide +kernel
theorem dX6_ones_14 : decode cX6_ones 14 = .ok (.iconst 1, 1) := by decide +kernel
theorem dX6_ones_15 : decode cX6_ones 15 = .ok (.iand, 1) := by decide +kernel
theorem dX6_ones_16 : decode cX6_ones 16 = .ok (.iadd, 1) := by decide +kernel
theorem dX6_ones_17 : decode cX6_ones 17 = .ok (.istore_n 1, 1) := by decide +kernel
theorem dX6_ones_18 : decode cX6_ones 18 = .ok (.iinc 2 1, 3) := by decide +kernel
theorem dX6_ones_21 : decode cX6_ones 21 = .ok (.goto (-17), 3) := by decide +kernel
theorem dX6_ones_24 : decode cX6_ones 24 = .ok (.iload_n 1, 1) := by decide +kernel
theorem dX6_ones_25 : decode cX6_ones 25 = .ok (.ireturn, 1) := by decide +kernel
theorem dX6_found_0 : decode cX6_found 0 = .ok (.aload_n 0, 1) := by decide +kernel
theorem dX6_found_1 : decode cX6_found 1 = .ok (.iload_n 1, 1) := by decide +kernel
theorem dX6_found_2 : decode cX6_found 2 = .ok (.putfield 48, 3) := by decide +kernel
theorem dX6_found_5 : decode cX6_found 5 = .ok (.ldc 52, 2) := by decide +kernel
theorem dX6_found_7 : decode cX6_found 7 = .ok (.iload_n 1, 1) := by decide +kernel
theorem dX6_found_8 : decode cX6_found 8 = .ok (.isub, 1) := by decide +kernel
theorem dX6_found_9 : decode cX6_found 9 = .ok (.ireturn, 1) := by decide +kernel
theorem dX6_well_0 : decode cX6_well 0 = .ok (.aload_n 0, 1) := by decide +kernel
theorem dX6_well_1 : decode cX6_well 1 = .ok (.iconst 0, 1) := by decide +kernel
theorem dX6_well_2 : decode cX6_well 2 = .ok (.putfield 48, 3) := by decide +kernel
theorem dX6_well_5 : decode cX6_well 5 = .ok (.iload_n 1, 1) := by decide +kernel
theorem dX6_well_6 : decode cX6_well 6 = .ok (.ireturn, 1) := by decide +kernel
theorem dX6_copies_0 : decode cX6_copies 0 = .ok (.iconst 0, 1) := by decide +kernel
theorem dX6_copies_1 : decode cX6_copies 1 = .ok (.istore 4, 2) := by decide +kernel
theorem dX6_copies_3 : decode cX6_copies 3 = .ok (.iload 4, 2) := by decide +kernel
theorem dX6_copies_5 : decode cX6_copies 5 = .ok (.bipush 45, 2) := by decide +kernel
theorem dX6_copies_7 : decode cX6_copies 7 = .ok (.if_icmp .ge 21, 3) := by decide +kernel
theorem dX6_copies_10 : decode cX6_copies 10 = .ok (.aload_n 2, 1) := by decide +kernel
theorem dX6_copies_11 : decode cX6_copies 11 = .ok (.iload_n 3, 1) := by decide +kernel
theorem dX6_copies_12 : decode cX6_copies 12 = .ok (.iload 4, 2) := by decide +kernel
theorem dX6_copies_14 : decode cX6_copies 14 = .ok (.iadd, 1) := by decide +kernel
theorem dX6_copies_15 : decode cX6_copies 15 = .ok (.aload_n 0, 1) := by decide +kernel
theorem dX6_copies_16 : decode cX6_copies 16 = .ok (.iload_n 1, 1) := by decide +kernel
theorem dX6_copies_17 : decode cX6_copies 17 = .ok (.iload 4, 2) := by decide +kernel
theorem dX6_copies_19 : decode cX6_copies 19 = .ok (.iadd, 1) := by decide +kernel
theorem dX6_copies_20 : decode cX6_copies 20 = .ok (.iaload, 1) := by decide +kernel
theorem dX6_copies_21 : decode cX6_copies 21 = .ok (.iastore, 1) := by decide +kernel
theorem dX6_copies_22 : decode cX6_copies 22 = .ok (.iinc 4 1, 3) := by decide +kernel
theorem dX6_copies_25 : decode cX6_copies 25 = .ok (.goto (-22), 3) := by decide +kernel
theorem dX6_copies_28 : decode cX6_copies 28 = .ok (.return_, 1) := by decide +kernel
theorem dX6_isRow_0 : decode cX6_isRow 0 = .ok (.iload_n 0, 1) := by decide +kernel
theorem dX6_isRow_1 : decode cX6_isRow 1 = .ok (.iconst 0, 1) := by decide +kernel
theorem dX6_isRow_2 : decode cX6_isRow 2 = .ok (.bipush 7, 2) := by decide +kernel
theorem dX6_isRow_4 : decode cX6_isRow 4 = .ok (.invokestatic 53, 3) := by decide +kernel
theorem dX6_isRow_7 : decode cX6_isRow 7 = .ok (.ireturn, 1) := by decide +kernel
theorem dX6_isMissing_0 : decode cX6_isMissing 0 = .ok (.aload_n 0, 1) := by decide +kernel
theorem dX6_isMissing_1 : decode cX6_isMissing 1 = .ok (.getfield 7, 3) := by decide +kernel
theorem dX6_isMissing_4 : decode cX6_isMissing 4 = .ok (.iload_n 1, 1) := by decide +kernel
theorem dX6_isMissing_5 : decode cX6_isMissing 5 = .ok (.iaload, 1) := by decide +kernel
theorem dX6_isMissing_6 : decode cX6_isMissing 6 = .ok (.ldc 47, 2) := by decide +kernel
theorem dX6_isMissing_8 : decode cX6_isMissing 8 = .ok (.if_icmp .ne 7, 3) := by decide +kernel
theorem dX6_isMissing_11 : decode cX6_isMissing 11 = .ok (.iconst 1, 1) := by decide +kernel
theorem dX6_isMissing_12 : decode cX6_isMissing 12 = .ok (.goto 4, 3) := by decide +kernel
theorem dX6_isMissing_15 : decode cX6_isMissing 15 = .ok (.iconst 0, 1) := by decide +kernel
theorem dX6_isMissing_16 : decode cX6_isMissing 16 = .ok (.ireturn, 1) := by decide +kernel
theorem dX6_cut_0 : decode cX6_cut 0 = .ok (.iload_n 0, 1) := by decide +kernel
theorem dX6_cut_1 : decode cX6_cut 1 = .ok (.ifCond .ne 13, 3) := by decide +kernel
theorem dX6_cut_4 : decode cX6_cut 4 = .ok (.iload_n 1, 1) := by decide +kernel
theorem dX6_cut_5 : decode cX6_cut 5 = .ok (.bipush 24, 2) := by decide +kernel
theorem dX6_cut_7 : decode cX6_cut 7 = .ok (.ishl, 1) := by decide +kernel
theorem dX6_cut_8 : decode cX6_cut 8 = .ok (.bipush 24, 2) := by decide +kernel
theorem dX6_cut_10 : decode cX6_cut 10 = .ok (.ishr, 1) := by decide +kernel
theorem dX6_cut_11 : decode cX6_cut 11 = .ok (.goto 19, 3) := by decide +kernel
theorem dX6_cut_14 : decode cX6_cut 14 = .ok (.iload_n 0, 1) := by decide +kernel
theorem dX6_cut_15 : decode cX6_cut 15 = .ok (.iconst 1, 1) := by decide +kernel
theorem dX6_cut_16 : decode cX6_cut 16 = .ok (.if_icmp .ne 13, 3) := by decide +kernel
theorem dX6_cut_19 : decode cX6_cut 19 = .ok (.iload_n 1, 1) := by decide +kernel
theorem dX6_cut_20 : decode cX6_cut 20 = .ok (.bipush 16, 2) := by decide +kernel
theorem dX6_cut_22 : decode cX6_cut 22 = .ok (.ishl, 1) := by decide +kernel
theorem dX6_cut_23 : decode cX6_cut 23 = .ok (.bipush 16, 2) := by decide +kernel
theorem dX6_cut_25 : decode cX6_cut 25 = .ok (.ishr, 1) := by decide +kernel
theorem dX6_cut_26 : decode cX6_cut 26 = .ok (.goto 4, 3) := by decide +kernel
theorem dX6_cut_29 : decode cX6_cut 29 = .ok (.iload_n 1, 1) := by decide +kernel
theorem dX6_cut_30 : decode cX6_cut 30 = .ok (.ireturn, 1) := by decide +kernel
theorem dX6_row_0 : decode cX6_row 0 = .ok (.iload_n 1, 1) := by decide +kernel
theorem dX6_row_1 : decode cX6_row 1 = .ok (.invokestatic 57, 3) := by decide +kernel
theorem dX6_row_4 : decode cX6_row 4 = .ok (.ifCond .eq 18, 3) := by decide +kernel
theorem dX6_row_7 : decode cX6_row 7 = .ok (.iload_n 2, 1) := by decide +kernel
theorem dX6_row_8 : decode cX6_row 8 = .ok (.iconst 0, 1) := by decide +kernel
theorem dX6_row_9 : decode cX6_row 9 = .ok (.iconst 2, 1) := by decide +kernel
theorem dX6_row_10 : decode cX6_row 10 = .ok (.invokestatic 53, 3) := by decide +kernel
theorem dX6_row_13 : decode cX6_row 13 = .ok (.ifCond .eq 9, 3) := by decide +kernel
theorem dX6_row_16 : decode cX6_row 16 = .ok (.iload_n 3, 1) := by decide +kernel
theorem dX6_row_17 : decode cX6_row 17 = .ok (.bipush 40, 2) := by decide +kernel
theorem dX6_row_19 : decode cX6_row 19 = .ok (.if_icmp .le 6, 3) := by decide +kernel
theorem dX6_row_22 : decode cX6_row 22 = .ok (.ldc 61, 2) := by decide +kernel
theorem dX6_row_24 : decode cX6_row 24 = .ok (.ireturn, 1) := by decide +kernel
theorem dX6_row_25 : decode cX6_row 25 = .ok (.iload_n 3, 1) := by decide +kernel
theorem dX6_row_26 : decode cX6_row 26 = .ok (.ifCond .ge 9, 3) := by decide +kernel
theorem dX6_row_29 : decode cX6_row 29 = .ok (.aload_n 0, 1) := by decide +kernel
theorem dX6_row_30 : decode cX6_row 30 = .ok (.iconst 4, 1) := by decide +kernel
theorem dX6_row_31 : decode cX6_row 31 = .ok (.invokevirtual 62, 3) := by decide +kernel
theorem dX6_row_34 : decode cX6_row 34 = .ok (.ireturn, 1) := by decide +kernel
theorem dX6_row_35 : decode cX6_row 35 = .ok (.aload_n 0, 1) := by decide +kernel
theorem dX6_row_36 : decode cX6_row 36 = .ok (.getfield 7, 3) := by decide +kernel
theorem dX6_row_39 : decode cX6_row 39 = .ok (.iload_n 1, 1) := by decide +kernel
theorem dX6_row_40 : decode cX6_row 40 = .ok (.iload_n 2, 1) := by decide +kernel
theorem dX6_row_41 : decode cX6_row 41 = .ok (.iastore, 1) := by decide +kernel
theorem dX6_row_42 : decode cX6_row 42 = .ok (.aload_n 0, 1) := by decide +kernel
theorem dX6_row_43 : decode cX6_row 43 = .ok (.getfield 13, 3) := by decide +kernel
theorem dX6_row_46 : decode cX6_row 46 = .ok (.iload_n 1, 1) := by decide +kernel
theorem dX6_row_47 : decode cX6_row 47 = .ok (.iload_n 3, 1) := by decide +kernel
theorem dX6_row_48 : decode cX6_row 48 = .ok (.iastore, 1) := by decide +kernel
theorem dX6_row_49 : decode cX6_row 49 = .ok (.iconst 0, 1) := by decide +kernel
theorem dX6_row_50 : decode cX6_row 50 = .ok (.istore 4, 2) := by decide +kernel
theorem dX6_row_52 : decode cX6_row 52 = .ok (.iload 4, 2) := by decide +kernel
theorem dX6_row_54 : decode cX6_row 54 = .ok (.bipush 40, 2) := by decide +kernel
theorem dX6_row_56 : decode cX6_row 56 = .ok (.if_icmp .ge 22, 3) := by decide +kernel
theorem dX6_row_59 : decode cX6_row 59 = .ok (.aload_n 0, 1) := by decide +kernel
theorem dX6_row_60 : decode cX6_row 60 = .ok (.getfield 16, 3) := by decide +kernel
theorem dX6_row_63 : decode cX6_row 63 = .ok (.bipush 40, 2) := by decide +kernel
theorem dX6_row_65 : decode cX6_row 65 = .ok (.iload_n 1, 1) := by decide +kernel
theorem dX6_row_66 : decode cX6_row 66 = .ok (.imul, 1) := by decide +kernel
theorem dX6_row_67 : decode cX6_row 67 = .ok (.iload 4, 2) := by decide +kernel
theorem dX6_row_69 : decode cX6_row 69 = .ok (.iadd, 1) := by decide +kernel
theorem dX6_row_70 : decode cX6_row 70 = .ok (.iconst 0, 1) := by decide +kernel
theorem dX6_row_71 : decode cX6_row 71 = .ok (.iastore, 1) := by decide +kernel
theorem dX6_row_72 : decode cX6_row 72 = .ok (.iinc 4 1, 3) := by decide +kernel
theorem dX6_row_75 : decode cX6_row 75 = .ok (.goto (-23), 3) := by decide +kernel
theorem dX6_row_78 : decode cX6_row 78 = .ok (.aload_n 0, 1) := by decide +kernel
theorem dX6_row_79 : decode cX6_row 79 = .ok (.iload_n 3, 1) := by decide +kernel
theorem dX6_row_80 : decode cX6_row 80 = .ok (.invokevirtual 66, 3) := by decide +kernel
theorem dX6_row_83 : decode cX6_row 83 = .ok (.ireturn, 1) := by decide +kernel
theorem dX6_set_0 : decode cX6_set 0 = .ok (.iload_n 1, 1) := by decide +kernel
theorem dX6_set_1 : decode cX6_set 1 = .ok (.invokestatic 57, 3) := by decide +kernel
theorem dX6_set_4 : decode cX6_set 4 = .ok (.ifCond .ne 6, 3) := by decide +kernel
theorem dX6_set_7 : decode cX6_set 7 = .ok (.ldc 61, 2) := by decide +kernel
theorem dX6_set_9 : decode cX6_set 9 = .ok (.ireturn, 1) := by decide +kernel
theorem dX6_set_10 : decode cX6_set 10 = .ok (.aload_n 0, 1) := by decide +kernel
theorem dX6_set_11 : decode cX6_set 11 = .ok (.iload_n 1, 1) := by decide +kernel
theorem dX6_set_12 : decode cX6_set 12 = .ok (.invokevirtual 69, 3) := by decide +kernel
theorem dX6_set_15 : decode cX6_set 15 = .ok (.ifCond .eq 9, 3) := by decide +kernel
theorem dX6_set_18 : decode cX6_set 18 = .ok (.aload_n 0, 1) := by decide +kernel
theorem dX6_set_19 : decode cX6_set 19 = .ok (.iconst 1, 1) := by decide +kernel
theorem dX6_set_20 : decode cX6_set 20 = .ok (.invokevirtual 62, 3) := by decide +kernel
theorem dX6_set_23 : decode cX6_set 23 = .ok (.ireturn, 1) := by decide +kernel
theorem dX6_set_24 : decode cX6_set 24 = .ok (.iload_n 2, 1) := by decide +kernel
theorem dX6_set_25 : decode cX6_set 25 = .ok (.iconst 0, 1) := by decide +kernel
theorem dX6_set_26 : decode cX6_set 26 = .ok (.aload_n 0, 1) := by decide +kernel
theorem dX6_set_27 : decode cX6_set 27 = .ok (.getfield 13, 3) := by decide +kernel
theorem dX6_set_30 : decode cX6_set 30 = .ok (.iload_n 1, 1) := by decide +kernel
theorem dX6_set_31 : decode cX6_set 31 = .ok (.iaload, 1) := by decide +kernel
theorem dX6_set_32 : decode cX6_set 32 = .ok (.iconst 1, 1) := by decide +kernel
theorem dX6_set_33 : decode cX6_set 33 = .ok (.isub, 1) := by decide +kernel
theorem dX6_set_34 : decode cX6_set 34 = .ok (.invokestatic 53, 3) := by decide +kernel
theorem dX6_set_37 : decode cX6_set 37 = .ok (.ifCond .ne 9, 3) := by decide +kernel
theorem dX6_set_40 : decode cX6_set 40 = .ok (.aload_n 0, 1) := by decide +kernel
theorem dX6_set_41 : decode cX6_set 41 = .ok (.iconst 2, 1) := by decide +kernel
theorem dX6_set_42 : decode cX6_set 42 = .ok (.invokevirtual 62, 3) := by decide +kernel
theorem dX6_set_45 : decode cX6_set 45 = .ok (.ireturn, 1) := by decide +kernel
theorem dX6_set_46 : decode cX6_set 46 = .ok (.aload_n 0, 1) := by decide +kernel
theorem dX6_set_47 : decode cX6_set 47 = .ok (.getfield 16, 3) := by decide +kernel
theorem dX6_set_50 : decode cX6_set 50 = .ok (.bipush 40, 2) := by decide +kernel
theorem dX6_set_52 : decode cX6_set 52 = .ok (.iload_n 1, 1) := by decide +kernel
theorem dX6_set_53 : decode cX6_set 53 = .ok (.imul, 1) := by decide +kernel
theorem dX6_set_54 : decode cX6_set 54 = .ok (.iload_n 2, 1) := by decide +kernel
theorem dX6_set_55 : decode cX6_set 55 = .ok (.iadd, 1) := by decide +kernel
theorem dX6_set_56 : decode cX6_set 56 = .ok (.aload_n 0, 1) := by decide +kernel
theorem dX6_set_57 : decode cX6_set 57 = .ok (.getfield 7, 3) := by decide +kernel
theorem dX6_set_60 : decode cX6_set 60 = .ok (.iload_n 1, 1) := by decide +kernel
theorem dX6_set_61 : decode cX6_set 61 = .ok (.iaload, 1) := by decide +kernel
theorem dX6_set_62 : decode cX6_set 62 = .ok (.iload_n 3, 1) := by decide +kernel
theorem dX6_set_63 : decode cX6_set 63 = .ok (.invokestatic 72, 3) := by decide +kernel
theorem dX6_set_66 : decode cX6_set 66 = .ok (.iastore, 1) := by decide +kernel
theorem dX6_set_67 : decode cX6_set 67 = .ok (.aload_n 0, 1) := by decide +kernel
theorem dX6_set_68 : decode cX6_set 68 = .ok (.aload_n 0, 1) := by decide +kernel
theorem dX6_set_69 : decode cX6_set 69 = .ok (.getfield 16, 3) := by decide +kernel
theorem dX6_set_72 : decode cX6_set 72 = .ok (.bipush 40, 2) := by decide +kernel
theorem dX6_set_74 : decode cX6_set 74 = .ok (.iload_n 1, 1) := by decide +kernel
theorem dX6_set_75 : decode cX6_set 75 = .ok (.imul, 1) := by decide +kernel
theorem dX6_set_76 : decode cX6_set 76 = .ok (.iload_n 2, 1) := by decide +kernel
theorem dX6_set_77 : decode cX6_set 77 = .ok (.iadd, 1) := by decide +kernel
theorem dX6_set_78 : decode cX6_set 78 = .ok (.iaload, 1) := by decide +kernel
theorem dX6_set_79 : decode cX6_set 79 = .ok (.invokevirtual 66, 3) := by decide +kernel
theorem dX6_set_82 : decode cX6_set 82 = .ok (.ireturn, 1) := by decide +kernel
theorem dX6_isPart_0 : decode cX6_isPart 0 = .ok (.iload_n 2, 1) := by decide +kernel
theorem dX6_isPart_1 : decode cX6_isPart 1 = .ok (.ifCond .lt 33, 3) := by decide +kernel
theorem dX6_isPart_4 : decode cX6_isPart 4 = .ok (.iload_n 3, 1) := by decide +kernel
theorem dX6_isPart_5 : decode cX6_isPart 5 = .ok (.ifCond .lt 29, 3) := by decide +kernel
theorem dX6_isPart_8 : decode cX6_isPart 8 = .ok (.iload_n 2, 1) := by decide +kernel
theorem dX6_isPart_9 : decode cX6_isPart 9 = .ok (.aload_n 0, 1) := by decide +kernel
theorem dX6_isPart_10 : decode cX6_isPart 10 = .ok (.getfield 13, 3) := by decide +kernel
theorem dX6_isPart_13 : decode cX6_isPart 13 = .ok (.iload_n 1, 1) := by decide +kernel
theorem dX6_isPart_14 : decode cX6_isPart 14 = .ok (.iaload, 1) := by decide +kernel
theorem dX6_isPart_15 : decode cX6_isPart 15 = .ok (.if_icmp .gt 19, 3) := by decide +kernel
theorem dX6_isPart_18 : decode cX6_isPart 18 = .ok (.iload_n 3, 1) := by decide +kernel
theorem dX6_isPart_19 : decode cX6_isPart 19 = .ok (.aload_n 0, 1) := by decide +kernel
theorem dX6_isPart_20 : decode cX6_isPart 20 = .ok (.getfield 13, 3) := by decide +kernel
theorem dX6_isPart_23 : decode cX6_isPart 23 = .ok (.iload_n 1, 1) := by decide +kernel
theorem dX6_isPart_24 : decode cX6_isPart 24 = .ok (.iaload, 1) := by decide +kernel
theorem dX6_isPart_25 : decode cX6_isPart 25 = .ok (.iload_n 2, 1) := by decide +kernel
theorem dX6_isPart_26 : decode cX6_isPart 26 = .ok (.isub, 1) := by decide +kernel
theorem dX6_isPart_27 : decode cX6_isPart 27 = .ok (.if_icmp .gt 7, 3) := by decide +kernel
theorem dX6_isPart_30 : decode cX6_isPart 30 = .ok (.iconst 1, 1) := by decide +kernel
theorem dX6_isPart_31 : decode cX6_isPart 31 = .ok (.goto 4, 3) := by decide +kernel
theorem dX6_isPart_34 : decode cX6_isPart 34 = .ok (.iconst 0, 1) := by decide +kernel
theorem dX6_isPart_35 : decode cX6_isPart 35 = .ok (.ireturn, 1) := by decide +kernel
theorem dX6_copy_0 : decode cX6_copy 0 = .ok (.iload_n 1, 1) := by decide +kernel
theorem dX6_copy_1 : decode cX6_copy 1 = .ok (.invokestatic 57, 3) := by decide +kernel
theorem dX6_copy_4 : decode cX6_copy 4 = .ok (.ifCond .eq 10, 3) := by decide +kernel
theorem dX6_copy_7 : decode cX6_copy 7 = .ok (.iload_n 3, 1) := by decide +kernel
theorem dX6_copy_8 : decode cX6_copy 8 = .ok (.invokestatic 57, 3) := by decide +kernel
theorem dX6_copy_11 : decode cX6_copy 11 = .ok (.ifCond .ne 6, 3) := by decide +kernel
theorem dX6_copy_14 : decode cX6_copy 14 = .ok (.ldc 61, 2) := by decide +kernel
theorem dX6_copy_16 : decode cX6_copy 16 = .ok (.ireturn, 1) := by decide +kernel
theorem dX6_copy_17 : decode cX6_copy 17 = .ok (.aload_n 0, 1) := by decide +kernel
theorem dX6_copy_18 : decode cX6_copy 18 = .ok (.iload_n 1, 1) := by decide +kernel
theorem dX6_copy_19 : decode cX6_copy 19 = .ok (.invokevirtual 69, 3) := by decide +kernel
theorem dX6_copy_22 : decode cX6_copy 22 = .ok (.ifCond .ne 11, 3) := by decide +kernel
theorem dX6_copy_25 : decode cX6_copy 25 = .ok (.aload_n 0, 1) := by decide +kernel
theorem dX6_copy_26 : decode cX6_copy 26 = .ok (.iload_n 3, 1) := by decide +kernel
theorem dX6_copy_27 : decode cX6_copy 27 = .ok (.invokevirtual 69, 3) := by decide +kernel
theorem dX6_copy_30 : decode cX6_copy 30 = .ok (.ifCond .eq 9, 3) := by decide +kernel
theorem dX6_copy_33 : decode cX6_copy 33 = .ok (.aload_n 0, 1) := by decide +kernel
theorem dX6_copy_34 : decode cX6_copy 34 = .ok (.iconst 1, 1) := by decide +kernel
theorem dX6_copy_35 : decode cX6_copy 35 = .ok (.invokevirtual 62, 3) := by decide +kernel
theorem dX6_copy_38 : decode cX6_copy 38 = .ok (.ireturn, 1) := by decide +kernel
theorem dX6_copy_39 : decode cX6_copy 39 = .ok (.aload_n 0, 1) := by decide +kernel
theorem dX6_copy_40 : decode cX6_copy 40 = .ok (.getfield 7, 3) := by decide +kernel
theorem dX6_copy_43 : decode cX6_copy 43 = .ok (.iload_n 1, 1) := by decide +kernel
theorem dX6_copy_44 : decode cX6_copy 44 = .ok (.iaload, 1) := by decide +kernel
theorem dX6_copy_45 : decode cX6_copy 45 = .ok (.aload_n 0, 1) := by decide +kernel
theorem dX6_copy_46 : decode cX6_copy 46 = .ok (.getfield 7, 3) := by decide +kernel
theorem dX6_copy_49 : decode cX6_copy 49 = .ok (.iload_n 3, 1) := by decide +kernel
theorem dX6_copy_50 : decode cX6_copy 50 = .ok (.iaload, 1) := by decide +kernel
theorem dX6_copy_51 : decode cX6_copy 51 = .ok (.if_icmp .eq 9, 3) := by decide +kernel
theorem dX6_copy_54 : decode cX6_copy 54 = .ok (.aload_n 0, 1) := by decide +kernel
theorem dX6_copy_55 : decode cX6_copy 55 = .ok (.iconst 5, 1) := by decide +kernel
theorem dX6_copy_56 : decode cX6_copy 56 = .ok (.invokevirtual 62, 3) := by decide +kernel
theorem dX6_copy_59 : decode cX6_copy 59 = .ok (.ireturn, 1) := by decide +kernel
theorem dX6_copy_60 : decode cX6_copy 60 = .ok (.aload_n 0, 1) := by decide +kernel
theorem dX6_copy_61 : decode cX6_copy 61 = .ok (.iload_n 1, 1) := by decide +kernel
theorem dX6_copy_62 : decode cX6_copy 62 = .ok (.iload_n 2, 1) := by decide +kernel
theorem dX6_copy_63 : decode cX6_copy 63 = .ok (.iload 5, 2) := by decide +kernel
theorem dX6_copy_65 : decode cX6_copy 65 = .ok (.invokevirtual 76, 3) := by decide +kernel
theorem dX6_copy_68 : decode cX6_copy 68 = .ok (.ifCond .eq 15, 3) := by decide +kernel
theorem dX6_copy_71 : decode cX6_copy 71 = .ok (.aload_n 0, 1) := by decide +kernel
theorem dX6_copy_72 : decode cX6_copy 72 = .ok (.iload_n 3, 1) := by decide +kernel
theorem dX6_copy_73 : decode cX6_copy 73 = .ok (.iload 4, 2) := by decide +kernel
theorem dX6_copy_75 : decode cX6_copy 75 = .ok (.iload 5, 2) := by decide +kernel
theorem dX6_copy_77 : decode cX6_copy 77 = .ok (.invokevirtual 76, 3) := by decide +kernel
theorem dX6_copy_80 : decode cX6_copy 80 = .ok (.ifCond .ne 9, 3) := by decide +kernel
theorem dX6_copy_83 : decode cX6_copy 83 = .ok (.aload_n 0, 1) := by decide +kernel
theorem dX6_copy_84 : decode cX6_copy 84 = .ok (.iconst 2, 1) := by decide +kernel
theorem dX6_copy_85 : decode cX6_copy 85 = .ok (.invokevirtual 62, 3) := by decide +kernel
theorem dX6_copy_88 : decode cX6_copy 88 = .ok (.ireturn, 1) := by decide +kernel
theorem dX6_copy_89 : decode cX6_copy 89 = .ok (.iconst 0, 1) := by decide +kernel
theorem dX6_copy_90 : decode cX6_copy 90 = .ok (.istore 6, 2) := by decide +kernel
theorem dX6_copy_92 : decode cX6_copy 92 = .ok (.iload 6, 2) := by decide +kernel
theorem dX6_copy_94 : decode cX6_copy 94 = .ok (.iload 5, 2) := by decide +kernel
theorem dX6_copy_96 : decode cX6_copy 96 = .ok (.if_icmp .ge 30, 3) := by decide +kernel
theorem dX6_copy_99 : decode cX6_copy 99 = .ok (.aload_n 0, 1) := by decide +kernel
theorem dX6_copy_100 : decode cX6_copy 100 = .ok (.getfield 19, 3) := by decide +kernel
theorem dX6_copy_103 : decode cX6_copy 103 = .ok (.iload 6, 2) := by decide +kernel
theorem dX6_copy_105 : decode cX6_copy 105 = .ok (.aload_n 0, 1) := by decide +kernel
theorem dX6_copy_106 : decode cX6_copy 106 = .ok (.getfield 16, 3) := by decide +kernel
theorem dX6_copy_109 : decode cX6_copy 109 = .ok (.bipush 40, 2) := by decide +kernel
theorem dX6_copy_111 : decode cX6_copy 111 = .ok (.iload_n 1, 1) := by decide +kernel
theorem dX6_copy_112 : decode cX6_copy 112 = .ok (.imul, 1) := by decide +kernel
theorem dX6_copy_113 : decode cX6_copy 113 = .ok (.iload_n 2, 1) := by decide +kernel
theorem dX6_copy_114 : decode cX6_copy 114 = .ok (.iadd, 1) := by decide +kernel
theorem dX6_copy_115 : decode cX6_copy 115 = .ok (.iload 6, 2) := by decide +kernel
theorem dX6_copy_117 : decode cX6_copy 117 = .ok (.iadd, 1) := by decide +kernel
theorem dX6_copy_118 : decode cX6_copy 118 = .ok (.iaload, 1) := by decide +kernel
theorem dX6_copy_119 : decode cX6_copy 119 = .ok (.iastore, 1) := by decide +kernel
theorem dX6_copy_120 : decode cX6_copy 120 = .ok (.iinc 6 1, 3) := by decide +kernel
theorem dX6_copy_123 : decode cX6_copy 123 = .ok (.goto (-31), 3) := by decide +kernel
theorem dX6_copy_126 : decode cX6_copy 126 = .ok (.iconst 0, 1) := by decide +kernel
theorem dX6_copy_127 : decode cX6_copy 127 = .ok (.istore 6, 2) := by decide +kernel
theorem dX6_copy_129 : decode cX6_copy 129 = .ok (.iload 6, 2) := by decide +kernel
theorem dX6_copy_131 : decode cX6_copy 131 = .ok (.iload 5, 2) := by decide +kernel
theorem dX6_copy_133 : decode cX6_copy 133 = .ok (.if_icmp .ge 31, 3) := by decide +kernel
theorem dX6_copy_136 : decode cX6_copy 136 = .ok (.aload_n 0, 1) := by decide +kernel
theorem dX6_copy_137 : decode cX6_copy 137 = .ok (.getfield 16, 3) := by decide +kernel
theorem dX6_copy_140 : decode cX6_copy 140 = .ok (.bipush 40, 2) := by decide +kernel
theorem dX6_copy_142 : decode cX6_copy 142 = .ok (.iload_n 3, 1) := by decide +kernel
theorem dX6_copy_143 : decode cX6_copy 143 = .ok (.imul, 1) := by decide +kernel
theorem dX6_copy_144 : decode cX6_copy 144 = .ok (.iload 4, 2) := by decide +kernel
theorem dX6_copy_146 : decode cX6_copy 146 = .ok (.iadd, 1) := by decide +kernel
theorem dX6_copy_147 : decode cX6_copy 147 = .ok (.iload 6, 2) := by decide +kernel
theorem dX6_copy_149 : decode cX6_copy 149 = .ok (.iadd, 1) := by decide +kernel
theorem dX6_copy_150 : decode cX6_copy 150 = .ok (.aload_n 0, 1) := by decide +kernel
theorem dX6_copy_151 : decode cX6_copy 151 = .ok (.getfield 19, 3) := by decide +kernel
theorem dX6_copy_154 : decode cX6_copy 154 = .ok (.iload 6, 2) := by decide +kernel
theorem dX6_copy_156 : decode cX6_copy 156 = .ok (.iaload, 1) := by decide +kernel
theorem dX6_copy_157 : decode cX6_copy 157 = .ok (.iastore, 1) := by decide +kernel
theorem dX6_copy_158 : decode cX6_copy 158 = .ok (.iinc 6 1, 3) := by decide +kernel
theorem dX6_copy_161 : decode cX6_copy 161 = .ok (.goto (-32), 3) := by decide +kernel
theorem dX6_copy_164 : decode cX6_copy 164 = .ok (.aload_n 0, 1) := by decide +kernel
theorem dX6_copy_165 : decode cX6_copy 165 = .ok (.iload 5, 2) := by decide +kernel
theorem dX6_copy_167 : decode cX6_copy 167 = .ok (.invokevirtual 66, 3) := by decide +kernel
theorem dX6_copy_170 : decode cX6_copy 170 = .ok (.ireturn, 1) := by decide +kernel
theorem dX6_drop_0 : decode cX6_drop 0 = .ok (.iload_n 1, 1) := by decide +kernel
theorem dX6_drop_1 : decode cX6_drop 1 = .ok (.invokestatic 57, 3) := by decide +kernel
theorem dX6_drop_4 : decode cX6_drop 4 = .ok (.ifCond .ne 6, 3) := by decide +kernel
theorem dX6_drop_7 : decode cX6_drop 7 = .ok (.ldc 61, 2) := by decide +kernel
theorem dX6_drop_9 : decode cX6_drop 9 = .ok (.ireturn, 1) := by decide +kernel
theorem dX6_drop_10 : decode cX6_drop 10 = .ok (.aload_n 0, 1) := by decide +kernel
theorem dX6_drop_11 : decode cX6_drop 11 = .ok (.iload_n 1, 1) := by decide +kernel
theorem dX6_drop_12 : decode cX6_drop 12 = .ok (.invokevirtual 69, 3) := by decide +kernel
theorem dX6_drop_15 : decode cX6_drop 15 = .ok (.ifCond .eq 9, 3) := by decide +kernel
theorem dX6_drop_18 : decode cX6_drop 18 = .ok (.aload_n 0, 1) := by decide +kernel
theorem dX6_drop_19 : decode cX6_drop 19 = .ok (.iconst 1, 1) := by decide +kernel
theorem dX6_drop_20 : decode cX6_drop 20 = .ok (.invokevirtual 62, 3) := by decide +kernel
theorem dX6_drop_23 : decode cX6_drop 23 = .ok (.ireturn, 1) := by decide +kernel
theorem dX6_drop_24 : decode cX6_drop 24 = .ok (.aload_n 0, 1) := by decide +kernel
theorem dX6_drop_25 : decode cX6_drop 25 = .ok (.getfield 7, 3) := by decide +kernel
theorem dX6_drop_28 : decode cX6_drop 28 = .ok (.iload_n 1, 1) := by decide +kernel
theorem dX6_drop_29 : decode cX6_drop 29 = .ok (.ldc 47, 2) := by decide +kernel
theorem dX6_drop_31 : decode cX6_drop 31 = .ok (.iastore, 1) := by decide +kernel
theorem dX6_drop_32 : decode cX6_drop 32 = .ok (.aload_n 0, 1) := by decide +kernel
theorem dX6_drop_33 : decode cX6_drop 33 = .ok (.aload_n 0, 1) := by decide +kernel
theorem dX6_drop_34 : decode cX6_drop 34 = .ok (.getfield 13, 3) := by decide +kernel
theorem dX6_drop_37 : decode cX6_drop 37 = .ok (.iload_n 1, 1) := by decide +kernel
theorem dX6_drop_38 : decode cX6_drop 38 = .ok (.iaload, 1) := by decide +kernel
theorem dX6_drop_39 : decode cX6_drop 39 = .ok (.invokevirtual 66, 3) := by decide +kernel
theorem dX6_drop_42 : decode cX6_drop 42 = .ok (.ireturn, 1) := by decide +kernel
theorem dX6_feed_0 : decode cX6_feed 0 = .ok (.iload_n 1, 1) := by decide +kernel
theorem dX6_feed_1 : decode cX6_feed 1 = .ok (.iconst 0, 1) := by decide +kernel
theorem dX6_feed_2 : decode cX6_feed 2 = .ok (.sipush 255, 3) := by decide +kernel
theorem dX6_feed_5 : decode cX6_feed 5 = .ok (.invokestatic 53, 3) := by decide +kernel
theorem dX6_feed_8 : decode cX6_feed 8 = .ok (.ifCond .ne 6, 3) := by decide +kernel
theorem dX6_feed_11 : decode cX6_feed 11 = .ok (.ldc 61, 2) := by decide +kernel
theorem dX6_feed_13 : decode cX6_feed 13 = .ok (.ireturn, 1) := by decide +kernel
theorem dX6_feed_14 : decode cX6_feed 14 = .ok (.aload_n 0, 1) := by decide +kernel
theorem dX6_feed_15 : decode cX6_feed 15 = .ok (.getfield 79, 3) := by decide +kernel
theorem dX6_feed_18 : decode cX6_feed 18 = .ok (.bipush 110, 2) := by decide +kernel
theorem dX6_feed_20 : decode cX6_feed 20 = .ok (.if_icmp .ne 6, 3) := by decide +kernel
theorem dX6_feed_23 : decode cX6_feed 23 = .ok (.ldc 82, 2) := by decide +kernel
theorem dX6_feed_25 : decode cX6_feed 25 = .ok (.ireturn, 1) := by decide +kernel
theorem dX6_feed_26 : decode cX6_feed 26 = .ok (.aload_n 0, 1) := by decide +kernel
theorem dX6_feed_27 : decode cX6_feed 27 = .ok (.getfield 22, 3) := by decide +kernel
theorem dX6_feed_30 : decode cX6_feed 30 = .ok (.aload_n 0, 1) := by decide +kernel
theorem dX6_feed_31 : decode cX6_feed 31 = .ok (.getfield 79, 3) := by decide +kernel
theorem dX6_feed_34 : decode cX6_feed 34 = .ok (.iload_n 1, 1) := by decide +kernel
theorem dX6_feed_35 : decode cX6_feed 35 = .ok (.iastore, 1) := by decide +kernel
theorem dX6_feed_36 : decode cX6_feed 36 = .ok (.aload_n 0, 1) := by decide +kernel
theorem dX6_feed_37 : decode cX6_feed 37 = .ok (.dup, 1) := by decide +kernel
theorem dX6_feed_38 : decode cX6_feed 38 = .ok (.getfield 79, 3) := by decide +kernel
theorem dX6_feed_41 : decode cX6_feed 41 = .ok (.iconst 1, 1) := by decide +kernel
theorem dX6_feed_42 : decode cX6_feed 42 = .ok (.iadd, 1) := by decide +kernel
theorem dX6_feed_43 : decode cX6_feed 43 = .ok (.putfield 79, 3) := by decide +kernel
theorem dX6_feed_46 : decode cX6_feed 46 = .ok (.aload_n 0, 1) := by decide +kernel
theorem dX6_feed_47 : decode cX6_feed 47 = .ok (.getfield 79, 3) := by decide +kernel
theorem dX6_feed_50 : decode cX6_feed 50 = .ok (.ireturn, 1) := by decide +kernel
theorem dX6_byteAt_0 : decode cX6_byteAt 0 = .ok (.iload_n 1, 1) := by decide +kernel
theorem dX6_byteAt_1 : decode cX6_byteAt 1 = .ok (.aload_n 0, 1) := by decide +kernel
theorem dX6_byteAt_2 : decode cX6_byteAt 2 = .ok (.getfield 79, 3) := by decide +kernel
theorem dX6_byteAt_5 : decode cX6_byteAt 5 = .ok (.if_icmp .ge 12, 3) := by decide +kernel
theorem dX6_byteAt_8 : decode cX6_byteAt 8 = .ok (.aload_n 0, 1) := by decide +kernel
theorem dX6_byteAt_9 : decode cX6_byteAt 9 = .ok (.getfield 22, 3) := by decide +kernel
theorem dX6_byteAt_12 : decode cX6_byteAt 12 = .ok (.iload_n 1, 1) := by decide +kernel
theorem dX6_byteAt_13 : decode cX6_byteAt 13 = .ok (.iaload, 1) := by decide +kernel
theorem dX6_byteAt_14 : decode cX6_byteAt 14 = .ok (.goto 4, 3) := by decide +kernel
theorem dX6_byteAt_17 : decode cX6_byteAt 17 = .ok (.iconst (-1), 1) := by decide +kernel
theorem dX6_byteAt_18 : decode cX6_byteAt 18 = .ok (.ireturn, 1) := by decide +kernel
theorem dX6_advances_0 : decode cX6_advances 0 = .ok (.aload_n 0, 1) := by decide +kernel
theorem dX6_advances_1 : decode cX6_advances 1 = .ok (.aload_n 0, 1) := by decide +kernel
theorem dX6_advances_2 : decode cX6_advances 2 = .ok (.getfield 83, 3) := by decide +kernel
theorem dX6_advances_5 : decode cX6_advances 5 = .ok (.putfield 86, 3) := by decide +kernel
theorem dX6_advances_8 : decode cX6_advances 8 = .ok (.aload_n 0, 1) := by decide +kernel
theorem dX6_advances_9 : decode cX6_advances 9 = .ok (.aload_n 0, 1) := by decide +kernel
theorem dX6_advances_10 : decode cX6_advances 10 = .ok (.getfield 83, 3) := by decide +kernel
theorem dX6_advances_13 : decode cX6_advances 13 = .ok (.invokevirtual 89, 3) := by decide +kernel
theorem dX6_advances_16 : decode cX6_advances 16 = .ok (.istore_n 1, 1) := by decide +kernel
theorem dX6_advances_17 : decode cX6_advances 17 = .ok (.aload_n 0, 1) := by decide +kernel
theorem dX6_advances_18 : decode cX6_advances 18 = .ok (.iload_n 1, 1) := by decide +kernel
theorem dX6_advances_19 : decode cX6_advances 19 = .ok (.putfield 92, 3) := by decide +kernel
theorem dX6_advances_22 : decode cX6_advances 22 = .ok (.iload_n 1, 1) := by decide +kernel
theorem dX6_advances_23 : decode cX6_advances 23 = .ok (.bipush 48, 2) := by decide +kernel
theorem dX6_advances_25 : decode cX6_advances 25 = .ok (.bipush 57, 2) := by decide +kernel
theorem dX6_advances_27 : decode cX6_advances 27 = .ok (.invokestatic 53, 3) := by decide +kernel
theorem dX6_advances_30 : decode cX6_advances 30 = .ok (.ifCond .eq 105, 3) := by decide +kernel
theorem dX6_advances_33 : decode cX6_advances 33 = .ok (.aload_n 0, 1) := by decide +kernel
theorem dX6_advances_34 : decode cX6_advances 34 = .ok (.iconst 0, 1) := by decide +kernel
theorem dX6_advances_35 : decode cX6_advances 35 = .ok (.putfield 92, 3) := by decide +kernel
theorem dX6_advances_38 : decode cX6_advances 38 = .ok (.aload_n 0, 1) := by decide +kernel
theorem dX6_advances_39 : decode cX6_advances 39 = .ok (.aload_n 0, 1) := by decide +kernel
theorem dX6_advances_40 : decode cX6_advances 40 = .ok (.getfield 83, 3) := by decide +kernel
theorem dX6_advances_43 : decode cX6_advances 43 = .ok (.invokevirtual 89, 3) := by decide +kernel
theorem dX6_advances_46 : decode cX6_advances 46 = .ok (.bipush 48, 2) := by decide +kernel
theorem dX6_advances_48 : decode cX6_advances 48 = .ok (.bipush 57, 2) := by decide +kernel
theorem dX6_advances_50 : decode cX6_advances 50 = .ok (.invokestatic 53, 3) := by decide +kernel
theorem dX6_advances_53 : decode cX6_advances 53 = .ok (.ifCond .eq 59, 3) := by decide +kernel
theorem dX6_advances_56 : decode cX6_advances 56 = .ok (.aload_n 0, 1) := by decide +kernel
theorem dX6_advances_57 : decode cX6_advances 57 = .ok (.aload_n 0, 1) := by decide +kernel
theorem dX6_advances_58 : decode cX6_advances 58 = .ok (.getfield 83, 3) := by decide +kernel
theorem dX6_advances_61 : decode cX6_advances 61 = .ok (.aload_n 0, 1) := by decide +kernel
theorem dX6_advances_62 : decode cX6_advances 62 = .ok (.getfield 86, 3) := by decide +kernel
theorem dX6_advances_65 : decode cX6_advances 65 = .ok (.isub, 1) := by decide +kernel
theorem dX6_advances_66 : decode cX6_advances 66 = .ok (.iconst 2, 1) := by decide +kernel
theorem dX6_advances_67 : decode cX6_advances 67 = .ok (.if_icmp .ge 25, 3) := by decide +kernel
theorem dX6_advances_70 : decode cX6_advances 70 = .ok (.bipush 10, 2) := by decide +kernel
theorem dX6_advances_72 : decode cX6_advances 72 = .ok (.aload_n 0, 1) := by decide +kernel
theorem dX6_advances_73 : decode cX6_advances 73 = .ok (.getfield 92, 3) := by decide +kernel
theorem dX6_advances_76 : decode cX6_advances 76 = .ok (.imul, 1) := by decide +kernel
theorem dX6_advances_77 : decode cX6_advances 77 = .ok (.aload_n 0, 1) := by decide +kernel
theorem dX6_advances_78 : decode cX6_advances 78 = .ok (.aload_n 0, 1) := by decide +kernel
theorem dX6_advances_79 : decode cX6_advances 79 = .ok (.getfield 83, 3) := by decide +kernel
theorem dX6_advances_82 : decode cX6_advances 82 = .ok (.invokevirtual 89, 3) := by decide +kernel
theorem dX6_advances_85 : decode cX6_advances 85 = .ok (.iadd, 1) := by decide +kernel
theorem dX6_advances_86 : decode cX6_advances 86 = .ok (.bipush 48, 2) := by decide +kernel
theorem dX6_advances_88 : decode cX6_advances 88 = .ok (.isub, 1) := by decide +kernel
theorem dX6_advances_89 : decode cX6_advances 89 = .ok (.goto 7, 3) := by decide +kernel
theorem dX6_advances_92 : decode cX6_advances 92 = .ok (.aload_n 0, 1) := by decide +kernel
theorem dX6_advances_93 : decode cX6_advances 93 = .ok (.getfield 92, 3) := by decide +kernel
theorem dX6_advances_96 : decode cX6_advances 96 = .ok (.putfield 92, 3) := by decide +kernel
theorem dX6_advances_99 : decode cX6_advances 99 = .ok (.aload_n 0, 1) := by decide +kernel
theorem dX6_advances_100 : decode cX6_advances 100 = .ok (.dup, 1) := by decide +kernel
theorem dX6_advances_101 : decode cX6_advances 101 = .ok (.getfield 83, 3) := by decide +kernel
theorem dX6_advances_104 : decode cX6_advances 104 = .ok (.iconst 1, 1) := by decide +kernel
theorem dX6_advances_105 : decode cX6_advances 105 = .ok (.iadd, 1) := by decide +kernel
theorem dX6_advances_106 : decode cX6_advances 106 = .ok (.putfield 83, 3) := by decide +kernel
theorem dX6_advances_109 : decode cX6_advances 109 = .ok (.goto (-71), 3) := by decide +kernel
theorem dX6_advances_112 : decode cX6_advances 112 = .ok (.aload_n 0, 1) := by decide +kernel
theorem dX6_advances_113 : decode cX6_advances 113 = .ok (.aload_n 0, 1) := by decide +kernel
theorem dX6_advances_114 : decode cX6_advances 114 = .ok (.getfield 83, 3) := by decide +kernel
theorem dX6_advances_117 : decode cX6_advances 117 = .ok (.aload_n 0, 1) := by decide +kernel
theorem dX6_advances_118 : decode cX6_advances 118 = .ok (.getfield 86, 3) := by decide +kernel
theorem dX6_advances_121 : decode cX6_advances 121 = .ok (.isub, 1) := by decide +kernel
theorem dX6_advances_122 : decode cX6_advances 122 = .ok (.iconst 3, 1) := by decide +kernel
theorem dX6_advances_123 : decode cX6_advances 123 = .ok (.if_icmp .ge 7, 3) := by decide +kernel
theorem dX6_advances_126 : decode cX6_advances 126 = .ok (.iconst 2, 1) := by decide +kernel
theorem dX6_advances_127 : decode cX6_advances 127 = .ok (.goto 4, 3) := by decide +kernel
theorem dX6_advances_130 : decode cX6_advances 130 = .ok (.iconst 5, 1) := by decide +kernel
theorem dX6_advances_131 : decode cX6_advances 131 = .ok (.putfield 95, 3) := by decide +kernel
theorem dX6_advances_134 : decode cX6_advances 134 = .ok (.return_, 1) := by decide +kernel
theorem dX6_advances_135 : decode cX6_advances 135 = .ok (.aload_n 0, 1) := by decide +kernel
theorem dX6_advances_136 : decode cX6_advances 136 = .ok (.iload_n 1, 1) := by decide +kernel
theorem dX6_advances_137 : decode cX6_advances 137 = .ok (.ifCond .ge 7, 3) := by decide +kernel
theorem dX6_advances_140 : decode cX6_advances 140 = .ok (.iconst 0, 1) := by decide +kernel
theorem dX6_advances_141 : decode cX6_advances 141 = .ok (.goto 39, 3) := by decide +kernel
theorem dX6_advances_144 : decode cX6_advances 144 = .ok (.iload_n 1, 1) := by decide +kernel
theorem dX6_advances_145 : decode cX6_advances 145 = .ok (.bipush 97, 2) := by decide +kernel
theorem dX6_advances_147 : decode cX6_advances 147 = .ok (.bipush 122, 2) := by decide +kernel
theorem dX6_advances_149 : decode cX6_advances 149 = .ok (.invokestatic 53, 3) := by decide +kernel
theorem dX6_advances_152 : decode cX6_advances 152 = .ok (.ifCond .eq 7, 3) := by decide +kernel
theorem dX6_advances_155 : decode cX6_advances 155 = .ok (.iconst 1, 1) := by decide +kernel
theorem dX6_advances_156 : decode cX6_advances 156 = .ok (.goto 24, 3) := by decide +kernel
theorem dX6_advances_159 : decode cX6_advances 159 = .ok (.iload_n 1, 1) := by decide +kernel
theorem dX6_advances_160 : decode cX6_advances 160 = .ok (.bipush 44, 2) := by decide +kernel
theorem dX6_advances_162 : decode cX6_advances 162 = .ok (.if_icmp .ne 7, 3) := by decide +kernel
theorem dX6_advances_165 : decode cX6_advances 165 = .ok (.iconst 3, 1) := by decide +kernel
theorem dX6_advances_166 : decode cX6_advances 166 = .ok (.goto 14, 3) := by decide +kernel
theorem dX6_advances_169 : decode cX6_advances 169 = .ok (.iload_n 1, 1) := by decide +kernel
theorem dX6_advances_170 : decode cX6_advances 170 = .ok (.bipush 59, 2) := by decide +kernel
theorem dX6_advances_172 : decode cX6_advances 172 = .ok (.if_icmp .ne 7, 3) := by decide +kernel
theorem dX6_advances_175 : decode cX6_advances 175 = .ok (.iconst 4, 1) := by decide +kernel
theorem dX6_advances_176 : decode cX6_advances 176 = .ok (.goto 4, 3) := by decide +kernel
theorem dX6_advances_179 : decode cX6_advances 179 = .ok (.iconst 5, 1) := by decide +kernel
theorem dX6_advances_180 : decode cX6_advances 180 = .ok (.putfield 95, 3) := by decide +kernel
theorem dX6_advances_183 : decode cX6_advances 183 = .ok (.aload_n 0, 1) := by decide +kernel
theorem dX6_advances_184 : decode cX6_advances 184 = .ok (.dup, 1) := by decide +kernel
theorem dX6_advances_185 : decode cX6_advances 185 = .ok (.getfield 83, 3) := by decide +kernel
theorem dX6_advances_188 : decode cX6_advances 188 = .ok (.aload_n 0, 1) := by decide +kernel
theorem dX6_advances_189 : decode cX6_advances 189 = .ok (.getfield 95, 3) := by decide +kernel
theorem dX6_advances_192 : decode cX6_advances 192 = .ok (.ifCond .ne 7, 3) := by decide +kernel
theorem dX6_advances_195 : decode cX6_advances 195 = .ok (.iconst 0, 1) := by decide +kernel
theorem dX6_advances_196 : decode cX6_advances 196 = .ok (.goto 4, 3) := by decide +kernel
theorem dX6_advances_199 : decode cX6_advances 199 = .ok (.iconst 1, 1) := by decide +kernel
theorem dX6_advances_200 : decode cX6_advances 200 = .ok (.iadd, 1) := by decide +kernel
theorem dX6_advances_201 : decode cX6_advances 201 = .ok (.putfield 83, 3) := by decide +kernel
theorem dX6_advances_204 : decode cX6_advances 204 = .ok (.return_, 1) := by decide +kernel
theorem dX6_isWell_0 : decode cX6_isWell 0 = .ok (.aload_n 0, 1) := by decide +kernel
theorem dX6_isWell_1 : decode cX6_isWell 1 = .ok (.getfield 98, 3) := by decide +kernel
theorem dX6_isWell_4 : decode cX6_isWell 4 = .ok (.ifCond .ge 7, 3) := by decide +kernel
theorem dX6_isWell_7 : decode cX6_isWell 7 = .ok (.iconst 1, 1) := by decide +kernel
theorem dX6_isWell_8 : decode cX6_isWell 8 = .ok (.goto 4, 3) := by decide +kernel
theorem dX6_isWell_11 : decode cX6_isWell 11 = .ok (.iconst 0, 1) := by decide +kernel
theorem dX6_isWell_12 : decode cX6_isWell 12 = .ok (.ireturn, 1) := by decide +kernel
theorem dX6_takes_0 : decode cX6_takes 0 = .ok (.aload_n 0, 1) := by decide +kernel
theorem dX6_takes_1 : decode cX6_takes 1 = .ok (.invokevirtual 101, 3) := by decide +kernel
theorem dX6_takes_4 : decode cX6_takes 4 = .ok (.ifCond .ne 5, 3) := by decide +kernel
theorem dX6_takes_7 : decode cX6_takes 7 = .ok (.iconst 0, 1) := by decide +kernel
theorem dX6_takes_8 : decode cX6_takes 8 = .ok (.ireturn, 1) := by decide +kernel
theorem dX6_takes_9 : decode cX6_takes 9 = .ok (.iload_n 1, 1) := by decide +kernel
theorem dX6_takes_10 : decode cX6_takes 10 = .ok (.ifCond .ne 18, 3) := by decide +kernel
theorem dX6_takes_13 : decode cX6_takes 13 = .ok (.aload_n 0, 1) := by decide +kernel
theorem dX6_takes_14 : decode cX6_takes 14 = .ok (.aload_n 0, 1) := by decide +kernel
theorem dX6_takes_15 : decode cX6_takes 15 = .ok (.getfield 86, 3) := by decide +kernel
theorem dX6_takes_18 : decode cX6_takes 18 = .ok (.putfield 98, 3) := by decide +kernel
theorem dX6_takes_21 : decode cX6_takes 21 = .ok (.aload_n 0, 1) := by decide +kernel
theorem dX6_takes_22 : decode cX6_takes 22 = .ok (.iload_n 2, 1) := by decide +kernel
theorem dX6_takes_23 : decode cX6_takes 23 = .ok (.putfield 105, 3) := by decide +kernel
theorem dX6_takes_26 : decode cX6_takes 26 = .ok (.iconst 0, 1) := by decide +kernel
theorem dX6_takes_27 : decode cX6_takes 27 = .ok (.ireturn, 1) := by decide +kernel
theorem dX6_takes_28 : decode cX6_takes 28 = .ok (.aload_n 0, 1) := by decide +kernel
theorem dX6_takes_29 : decode cX6_takes 29 = .ok (.getfield 92, 3) := by decide +kernel
theorem dX6_takes_32 : decode cX6_takes 32 = .ok (.istore_n 3, 1) := by decide +kernel
theorem dX6_takes_33 : decode cX6_takes 33 = .ok (.aload_n 0, 1) := by decide +kernel
theorem dX6_takes_34 : decode cX6_takes 34 = .ok (.invokevirtual 108, 3) := by decide +kernel
theorem dX6_takes_37 : decode cX6_takes 37 = .ok (.iload_n 3, 1) := by decide +kernel
theorem dX6_takes_38 : decode cX6_takes 38 = .ok (.ireturn, 1) := by decide +kernel
theorem dX6_figure_0 : decode cX6_figure 0 = .ok (.aload_n 0, 1) := by decide +kernel
theorem dX6_figure_1 : decode cX6_figure 1 = .ok (.invokevirtual 101, 3) := by decide +kernel
theorem dX6_figure_4 : decode cX6_figure 4 = .ok (.ifCond .eq 18, 3) := by decide +kernel
theorem dX6_figure_7 : decode cX6_figure 7 = .ok (.aload_n 0, 1) := by decide +kernel
theorem dX6_figure_8 : decode cX6_figure 8 = .ok (.getfield 95, 3) := by decide +kernel
theorem dX6_figure_11 : decode cX6_figure 11 = .ok (.iconst 2, 1) := by decide +kernel
theorem dX6_figure_12 : decode cX6_figure 12 = .ok (.if_icmp .eq 10, 3) := by decide +kernel
theorem dX6_figure_15 : decode cX6_figure 15 = .ok (.aload_n 0, 1) := by decide +kernel
theorem dX6_figure_16 : decode cX6_figure 16 = .ok (.iconst 0, 1) := by decide +kernel
theorem dX6_figure_17 : decode cX6_figure 17 = .ok (.iconst 1, 1) := by decide +kernel
theorem dX6_figure_18 : decode cX6_figure 18 = .ok (.invokevirtual 111, 3) := by decide +kernel
theorem dX6_figure_21 : decode cX6_figure 21 = .ok (.ireturn, 1) := by decide +kernel
theorem dX6_figure_22 : decode cX6_figure 22 = .ok (.aload_n 0, 1) := by decide +kernel
theorem dX6_figure_23 : decode cX6_figure 23 = .ok (.aload_n 0, 1) := by decide +kernel
theorem dX6_figure_24 : decode cX6_figure 24 = .ok (.getfield 92, 3) := by decide +kernel
theorem dX6_figure_27 : decode cX6_figure 27 = .ok (.iload_n 1, 1) := by decide +kernel
theorem dX6_figure_28 : decode cX6_figure 28 = .ok (.iload_n 2, 1) := by decide +kernel
theorem dX6_figure_29 : decode cX6_figure 29 = .ok (.invokestatic 53, 3) := by decide +kernel
theorem dX6_figure_32 : decode cX6_figure 32 = .ok (.iconst 2, 1) := by decide +kernel
theorem dX6_figure_33 : decode cX6_figure 33 = .ok (.invokevirtual 111, 3) := by decide +kernel
theorem dX6_figure_36 : decode cX6_figure 36 = .ok (.ireturn, 1) := by decide +kernel
theorem dX6_kindOf_0 : decode cX6_kindOf 0 = .ok (.iload_n 0, 1) := by decide +kernel
theorem dX6_kindOf_1 : decode cX6_kindOf 1 = .ok (.bipush 115, 2) := by decide +kernel
theorem dX6_kindOf_3 : decode cX6_kindOf 3 = .ok (.if_icmp .ne 7, 3) := by decide +kernel
theorem dX6_kindOf_6 : decode cX6_kindOf 6 = .ok (.iconst 1, 1) := by decide +kernel
theorem dX6_kindOf_7 : decode cX6_kindOf 7 = .ok (.goto 44, 3) := by decide +kernel
theorem dX6_kindOf_10 : decode cX6_kindOf 10 = .ok (.iload_n 0, 1) := by decide +kernel
theorem dX6_kindOf_11 : decode cX6_kindOf 11 = .ok (.bipush 104, 2) := by decide +kernel
theorem dX6_kindOf_13 : decode cX6_kindOf 13 = .ok (.if_icmp .ne 7, 3) := by decide +kernel
theorem dX6_kindOf_16 : decode cX6_kindOf 16 = .ok (.iconst 2, 1) := by decide +kernel
theorem dX6_kindOf_17 : decode cX6_kindOf 17 = .ok (.goto 34, 3) := by decide +kernel
theorem dX6_kindOf_20 : decode cX6_kindOf 20 = .ok (.iload_n 0, 1) := by decide +kernel
theorem dX6_kindOf_21 : decode cX6_kindOf 21 = .ok (.bipush 102, 2) := by decide +kernel
theorem dX6_kindOf_23 : decode cX6_kindOf 23 = .ok (.if_icmp .ne 7, 3) := by decide +kernel
theorem dX6_kindOf_26 : decode cX6_kindOf 26 = .ok (.iconst 3, 1) := by decide +kernel
theorem dX6_kindOf_27 : decode cX6_kindOf 27 = .ok (.goto 24, 3) := by decide +kernel
theorem dX6_kindOf_30 : decode cX6_kindOf 30 = .ok (.iload_n 0, 1) := by decide +kernel
theorem dX6_kindOf_31 : decode cX6_kindOf 31 = .ok (.bipush 109, 2) := by decide +kernel
theorem dX6_kindOf_33 : decode cX6_kindOf 33 = .ok (.if_icmp .ne 7, 3) := by decide +kernel
theorem dX6_kindOf_36 : decode cX6_kindOf 36 = .ok (.iconst 4, 1) := by decide +kernel
theorem dX6_kindOf_37 : decode cX6_kindOf 37 = .ok (.goto 14, 3) := by decide +kernel
theorem dX6_kindOf_40 : decode cX6_kindOf 40 = .ok (.iload_n 0, 1) := by decide +kernel
theorem dX6_kindOf_41 : decode cX6_kindOf 41 = .ok (.bipush 101, 2) := by decide +kernel
theorem dX6_kindOf_43 : decode cX6_kindOf 43 = .ok (.if_icmp .ne 7, 3) := by decide +kernel
theorem dX6_kindOf_46 : decode cX6_kindOf 46 = .ok (.iconst 5, 1) := by decide +kernel
theorem dX6_kindOf_47 : decode cX6_kindOf 47 = .ok (.goto 4, 3) := by decide +kernel
theorem dX6_kindOf_50 : decode cX6_kindOf 50 = .ok (.iconst 0, 1) := by decide +kernel
theorem dX6_kindOf_51 : decode cX6_kindOf 51 = .ok (.ireturn, 1) := by decide +kernel
theorem dX6_follows_0 : decode cX6_follows 0 = .ok (.aload_n 0, 1) := by decide +kernel
theorem dX6_follows_1 : decode cX6_follows 1 = .ok (.aload_n 0, 1) := by decide +kernel
theorem dX6_follows_2 : decode cX6_follows 2 = .ok (.getfield 95, 3) := by decide +kernel
theorem dX6_follows_5 : decode cX6_follows 5 = .ok (.iconst 3, 1) := by decide +kernel
theorem dX6_follows_6 : decode cX6_follows 6 = .ok (.if_icmp .ne 7, 3) := by decide +kernel
theorem dX6_follows_9 : decode cX6_follows 9 = .ok (.iconst 1, 1) := by decide +kernel
theorem dX6_follows_10 : decode cX6_follows 10 = .ok (.goto 4, 3) := by decide +kernel
theorem dX6_follows_13 : decode cX6_follows 13 = .ok (.iconst 0, 1) := by decide +kernel
theorem dX6_follows_14 : decode cX6_follows 14 = .ok (.iconst 1, 1) := by decide +kernel
theorem dX6_follows_15 : decode cX6_follows 15 = .ok (.invokevirtual 111, 3) := by decide +kernel
theorem dX6_follows_18 : decode cX6_follows 18 = .ok (.pop, 1) := by decide +kernel
theorem dX6_follows_19 : decode cX6_follows 19 = .ok (.aload_n 0, 1) := by decide +kernel
theorem dX6_follows_20 : decode cX6_follows 20 = .ok (.iload_n 1, 1) := by decide +kernel
theorem dX6_follows_21 : decode cX6_follows 21 = .ok (.iload_n 2, 1) := by decide +kernel
theorem dX6_follows_22 : decode cX6_follows 22 = .ok (.invokevirtual 115, 3) := by decide +kernel
theorem dX6_follows_25 : decode cX6_follows 25 = .ok (.ireturn, 1) := by decide +kernel
theorem dX6_readsCell_0 : decode cX6_readsCell 0 = .ok (.aload_n 0, 1) := by decide +kernel
theorem dX6_readsCell_1 : decode cX6_readsCell 1 = .ok (.aload_n 0, 1) := by decide +kernel
theorem dX6_readsCell_2 : decode cX6_readsCell 2 = .ok (.getfield 28, 3) := by decide +kernel
theorem dX6_readsCell_5 : decode cX6_readsCell 5 = .ok (.iconst 2, 1) := by decide +kernel
theorem dX6_readsCell_6 : decode cX6_readsCell 6 = .ok (.iaload, 1) := by decide +kernel
theorem dX6_readsCell_7 : decode cX6_readsCell 7 = .ok (.bipush 12, 2) := by decide +kernel
theorem dX6_readsCell_9 : decode cX6_readsCell 9 = .ok (.if_icmp .ge 7, 3) := by decide +kernel
theorem dX6_readsCell_12 : decode cX6_readsCell 12 = .ok (.iconst 1, 1) := by decide +kernel
theorem dX6_readsCell_13 : decode cX6_readsCell 13 = .ok (.goto 4, 3) := by decide +kernel
theorem dX6_readsCell_16 : decode cX6_readsCell 16 = .ok (.iconst 0, 1) := by decide +kernel
theorem dX6_readsCell_17 : decode cX6_readsCell 17 = .ok (.iconst 3, 1) := by decide +kernel
theorem dX6_readsCell_18 : decode cX6_readsCell 18 = .ok (.invokevirtual 111, 3) := by decide +kernel
theorem dX6_readsCell_21 : decode cX6_readsCell 21 = .ok (.pop, 1) := by decide +kernel
theorem dX6_readsCell_22 : decode cX6_readsCell 22 = .ok (.iconst 5, 1) := by decide +kernel
theorem dX6_readsCell_23 : decode cX6_readsCell 23 = .ok (.aload_n 0, 1) := by decide +kernel
theorem dX6_readsCell_24 : decode cX6_readsCell 24 = .ok (.getfield 28, 3) := by decide +kernel
theorem dX6_readsCell_27 : decode cX6_readsCell 27 = .ok (.iconst 2, 1) := by decide +kernel
theorem dX6_readsCell_28 : decode cX6_readsCell 28 = .ok (.iaload, 1) := by decide +kernel
theorem dX6_readsCell_29 : decode cX6_readsCell 29 = .ok (.bipush 12, 2) := by decide +kernel
theorem dX6_readsCell_31 : decode cX6_readsCell 31 = .ok (.if_icmp .ge 12, 3) := by decide +kernel
theorem dX6_readsCell_34 : decode cX6_readsCell 34 = .ok (.aload_n 0, 1) := by decide +kernel
theorem dX6_readsCell_35 : decode cX6_readsCell 35 = .ok (.getfield 28, 3) := by decide +kernel
theorem dX6_readsCell_38 : decode cX6_readsCell 38 = .ok (.iconst 2, 1) := by decide +kernel
theorem dX6_readsCell_39 : decode cX6_readsCell 39 = .ok (.iaload, 1) := by decide +kernel
theorem dX6_readsCell_40 : decode cX6_readsCell 40 = .ok (.goto 4, 3) := by decide +kernel
theorem dX6_readsCell_43 : decode cX6_readsCell 43 = .ok (.iconst 0, 1) := by decide +kernel
theorem dX6_readsCell_44 : decode cX6_readsCell 44 = .ok (.iadd, 1) := by decide +kernel
theorem dX6_readsCell_45 : decode cX6_readsCell 45 = .ok (.istore_n 1, 1) := by decide +kernel
theorem dX6_readsCell_46 : decode cX6_readsCell 46 = .ok (.aload_n 0, 1) := by decide +kernel
theorem dX6_readsCell_47 : decode cX6_readsCell 47 = .ok (.iconst 0, 1) := by decide +kernel
theorem dX6_readsCell_48 : decode cX6_readsCell 48 = .ok (.iconst 3, 1) := by decide +kernel
theorem dX6_readsCell_49 : decode cX6_readsCell 49 = .ok (.invokevirtual 115, 3) := by decide +kernel
theorem dX6_readsCell_52 : decode cX6_readsCell 52 = .ok (.istore_n 2, 1) := by decide +kernel
theorem dX6_readsCell_53 : decode cX6_readsCell 53 = .ok (.aload_n 0, 1) := by decide +kernel
theorem dX6_readsCell_54 : decode cX6_readsCell 54 = .ok (.aload_n 0, 1) := by decide +kernel
theorem dX6_readsCell_55 : decode cX6_readsCell 55 = .ok (.getfield 95, 3) := by decide +kernel
theorem dX6_readsCell_58 : decode cX6_readsCell 58 = .ok (.iconst 4, 1) := by decide +kernel
theorem dX6_readsCell_59 : decode cX6_readsCell 59 = .ok (.if_icmp .ne 7, 3) := by decide +kernel
theorem dX6_readsCell_62 : decode cX6_readsCell 62 = .ok (.iconst 1, 1) := by decide +kernel
theorem dX6_readsCell_63 : decode cX6_readsCell 63 = .ok (.goto 4, 3) := by decide +kernel
theorem dX6_readsCell_66 : decode cX6_readsCell 66 = .ok (.iconst 0, 1) := by decide +kernel
theorem dX6_readsCell_67 : decode cX6_readsCell 67 = .ok (.iconst 1, 1) := by decide +kernel
theorem dX6_readsCell_68 : decode cX6_readsCell 68 = .ok (.invokevirtual 111, 3) := by decide +kernel
theorem dX6_readsCell_71 : decode cX6_readsCell 71 = .ok (.pop, 1) := by decide +kernel
theorem dX6_readsCell_72 : decode cX6_readsCell 72 = .ok (.aload_n 0, 1) := by decide +kernel
theorem dX6_readsCell_73 : decode cX6_readsCell 73 = .ok (.invokevirtual 101, 3) := by decide +kernel
theorem dX6_readsCell_76 : decode cX6_readsCell 76 = .ok (.ifCond .eq 20, 3) := by decide +kernel
theorem dX6_readsCell_79 : decode cX6_readsCell 79 = .ok (.aload_n 0, 1) := by decide +kernel
theorem dX6_readsCell_80 : decode cX6_readsCell 80 = .ok (.getfield 28, 3) := by decide +kernel
theorem dX6_readsCell_83 : decode cX6_readsCell 83 = .ok (.iload_n 1, 1) := by decide +kernel
theorem dX6_readsCell_84 : decode cX6_readsCell 84 = .ok (.iload_n 2, 1) := by decide +kernel
theorem dX6_readsCell_85 : decode cX6_readsCell 85 = .ok (.iastore, 1) := by decide +kernel
theorem dX6_readsCell_86 : decode cX6_readsCell 86 = .ok (.aload_n 0, 1) := by decide +kernel
theorem dX6_readsCell_87 : decode cX6_readsCell 87 = .ok (.getfield 28, 3) := by decide +kernel
theorem dX6_readsCell_90 : decode cX6_readsCell 90 = .ok (.iconst 2, 1) := by decide +kernel
theorem dX6_readsCell_91 : decode cX6_readsCell 91 = .ok (.dup2, 1) := by decide +kernel
theorem dX6_readsCell_92 : decode cX6_readsCell 92 = .ok (.iaload, 1) := by decide +kernel
theorem dX6_readsCell_93 : decode cX6_readsCell 93 = .ok (.iconst 1, 1) := by decide +kernel
theorem dX6_readsCell_94 : decode cX6_readsCell 94 = .ok (.iadd, 1) := by decide +kernel
theorem dX6_readsCell_95 : decode cX6_readsCell 95 = .ok (.iastore, 1) := by decide +kernel
theorem dX6_readsCell_96 : decode cX6_readsCell 96 = .ok (.return_, 1) := by decide +kernel
theorem dX6_readsWord_0 : decode cX6_readsWord 0 = .ok (.aload_n 0, 1) := by decide +kernel
theorem dX6_readsWord_1 : decode cX6_readsWord 1 = .ok (.getfield 92, 3) := by decide +kernel
theorem dX6_readsWord_4 : decode cX6_readsWord 4 = .ok (.invokestatic 118, 3) := by decide +kernel
theorem dX6_readsWord_7 : decode cX6_readsWord 7 = .ok (.istore_n 1, 1) := by decide +kernel
theorem dX6_readsWord_8 : decode cX6_readsWord 8 = .ok (.aload_n 0, 1) := by decide +kernel
theorem dX6_readsWord_9 : decode cX6_readsWord 9 = .ok (.aload_n 0, 1) := by decide +kernel
theorem dX6_readsWord_10 : decode cX6_readsWord 10 = .ok (.getfield 28, 3) := by decide +kernel
theorem dX6_readsWord_13 : decode cX6_readsWord 13 = .ok (.iconst 3, 1) := by decide +kernel
theorem dX6_readsWord_14 : decode cX6_readsWord 14 = .ok (.iaload, 1) := by decide +kernel
theorem dX6_readsWord_15 : decode cX6_readsWord 15 = .ok (.bipush 7, 2) := by decide +kernel
theorem dX6_readsWord_17 : decode cX6_readsWord 17 = .ok (.if_icmp .ge 7, 3) := by decide +kernel
theorem dX6_readsWord_20 : decode cX6_readsWord 20 = .ok (.iconst 1, 1) := by decide +kernel
theorem dX6_readsWord_21 : decode cX6_readsWord 21 = .ok (.goto 4, 3) := by decide +kernel
theorem dX6_readsWord_24 : decode cX6_readsWord 24 = .ok (.iconst 0, 1) := by decide +kernel
theorem dX6_readsWord_25 : decode cX6_readsWord 25 = .ok (.iconst 3, 1) := by decide +kernel
theorem dX6_readsWord_26 : decode cX6_readsWord 26 = .ok (.invokevirtual 111, 3) := by decide +kernel
theorem dX6_readsWord_29 : decode cX6_readsWord 29 = .ok (.pop, 1) := by decide +kernel
theorem dX6_readsWord_30 : decode cX6_readsWord 30 = .ok (.bipush 17, 2) := by decide +kernel
theorem dX6_readsWord_32 : decode cX6_readsWord 32 = .ok (.iconst 4, 1) := by decide +kernel
theorem dX6_readsWord_33 : decode cX6_readsWord 33 = .ok (.aload_n 0, 1) := by decide +kernel
theorem dX6_readsWord_34 : decode cX6_readsWord 34 = .ok (.getfield 28, 3) := by decide +kernel
theorem dX6_readsWord_37 : decode cX6_readsWord 37 = .ok (.iconst 3, 1) := by decide +kernel
theorem dX6_readsWord_38 : decode cX6_readsWord 38 = .ok (.iaload, 1) := by decide +kernel
theorem dX6_readsWord_39 : decode cX6_readsWord 39 = .ok (.bipush 7, 2) := by decide +kernel
theorem dX6_readsWord_41 : decode cX6_readsWord 41 = .ok (.if_icmp .ge 12, 3) := by decide +kernel
theorem dX6_readsWord_44 : decode cX6_readsWord 44 = .ok (.aload_n 0, 1) := by decide +kernel
theorem dX6_readsWord_45 : decode cX6_readsWord 45 = .ok (.getfield 28, 3) := by decide +kernel
theorem dX6_readsWord_48 : decode cX6_readsWord 48 = .ok (.iconst 3, 1) := by decide +kernel
theorem dX6_readsWord_49 : decode cX6_readsWord 49 = .ok (.iaload, 1) := by decide +kernel
theorem dX6_readsWord_50 : decode cX6_readsWord 50 = .ok (.goto 4, 3) := by decide +kernel
theorem dX6_readsWord_53 : decode cX6_readsWord 53 = .ok (.iconst 0, 1) := by decide +kernel
theorem dX6_readsWord_54 : decode cX6_readsWord 54 = .ok (.imul, 1) := by decide +kernel
theorem dX6_readsWord_55 : decode cX6_readsWord 55 = .ok (.iadd, 1) := by decide +kernel
theorem dX6_readsWord_56 : decode cX6_readsWord 56 = .ok (.istore_n 2, 1) := by decide +kernel
theorem dX6_readsWord_57 : decode cX6_readsWord 57 = .ok (.aload_n 0, 1) := by decide +kernel
theorem dX6_readsWord_58 : decode cX6_readsWord 58 = .ok (.iconst 1, 1) := by decide +kernel
theorem dX6_readsWord_59 : decode cX6_readsWord 59 = .ok (.bipush 60, 2) := by decide +kernel
theorem dX6_readsWord_61 : decode cX6_readsWord 61 = .ok (.invokevirtual 115, 3) := by decide +kernel
theorem dX6_readsWord_64 : decode cX6_readsWord 64 = .ok (.istore_n 3, 1) := by decide +kernel
theorem dX6_readsWord_65 : decode cX6_readsWord 65 = .ok (.aload_n 0, 1) := by decide +kernel
theorem dX6_readsWord_66 : decode cX6_readsWord 66 = .ok (.iconst 0, 1) := by decide +kernel
theorem dX6_readsWord_67 : decode cX6_readsWord 67 = .ok (.aload_n 0, 1) := by decide +kernel
theorem dX6_readsWord_68 : decode cX6_readsWord 68 = .ok (.getfield 28, 3) := by decide +kernel
theorem dX6_readsWord_71 : decode cX6_readsWord 71 = .ok (.iconst 2, 1) := by decide +kernel
theorem dX6_readsWord_72 : decode cX6_readsWord 72 = .ok (.iaload, 1) := by decide +kernel
theorem dX6_readsWord_73 : decode cX6_readsWord 73 = .ok (.iconst 1, 1) := by decide +kernel
theorem dX6_readsWord_74 : decode cX6_readsWord 74 = .ok (.isub, 1) := by decide +kernel
theorem dX6_readsWord_75 : decode cX6_readsWord 75 = .ok (.invokevirtual 121, 3) := by decide +kernel
theorem dX6_readsWord_78 : decode cX6_readsWord 78 = .ok (.istore 4, 2) := by decide +kernel
theorem dX6_readsWord_80 : decode cX6_readsWord 80 = .ok (.aload_n 0, 1) := by decide +kernel
theorem dX6_readsWord_81 : decode cX6_readsWord 81 = .ok (.aload_n 0, 1) := by decide +kernel
theorem dX6_readsWord_82 : decode cX6_readsWord 82 = .ok (.getfield 95, 3) := by decide +kernel
theorem dX6_readsWord_85 : decode cX6_readsWord 85 = .ok (.iconst 4, 1) := by decide +kernel
theorem dX6_readsWord_86 : decode cX6_readsWord 86 = .ok (.if_icmp .ne 7, 3) := by decide +kernel
theorem dX6_readsWord_89 : decode cX6_readsWord 89 = .ok (.iconst 1, 1) := by decide +kernel
theorem dX6_readsWord_90 : decode cX6_readsWord 90 = .ok (.goto 4, 3) := by decide +kernel
theorem dX6_readsWord_93 : decode cX6_readsWord 93 = .ok (.iconst 0, 1) := by decide +kernel
theorem dX6_readsWord_94 : decode cX6_readsWord 94 = .ok (.iconst 1, 1) := by decide +kernel
theorem dX6_readsWord_95 : decode cX6_readsWord 95 = .ok (.invokevirtual 111, 3) := by decide +kernel
theorem dX6_readsWord_98 : decode cX6_readsWord 98 = .ok (.pop, 1) := by decide +kernel
theorem dX6_readsWord_99 : decode cX6_readsWord 99 = .ok (.aload_n 0, 1) := by decide +kernel
theorem dX6_readsWord_100 : decode cX6_readsWord 100 = .ok (.invokevirtual 101, 3) := by decide +kernel
theorem dX6_readsWord_103 : decode cX6_readsWord 103 = .ok (.ifCond .eq 39, 3) := by decide +kernel
theorem dX6_readsWord_106 : decode cX6_readsWord 106 = .ok (.aload_n 0, 1) := by decide +kernel
theorem dX6_readsWord_107 : decode cX6_readsWord 107 = .ok (.getfield 28, 3) := by decide +kernel
theorem dX6_readsWord_110 : decode cX6_readsWord 110 = .ok (.iload_n 2, 1) := by decide +kernel
theorem dX6_readsWord_111 : decode cX6_readsWord 111 = .ok (.iload_n 1, 1) := by decide +kernel
theorem dX6_readsWord_112 : decode cX6_readsWord 112 = .ok (.iastore, 1) := by decide +kernel
theorem dX6_readsWord_113 : decode cX6_readsWord 113 = .ok (.aload_n 0, 1) := by decide +kernel
theorem dX6_readsWord_114 : decode cX6_readsWord 114 = .ok (.getfield 28, 3) := by decide +kernel
theorem dX6_readsWord_117 : decode cX6_readsWord 117 = .ok (.iload_n 2, 1) := by decide +kernel
theorem dX6_readsWord_118 : decode cX6_readsWord 118 = .ok (.iconst 1, 1) := by decide +kernel
theorem dX6_readsWord_119 : decode cX6_readsWord 119 = .ok (.iadd, 1) := by decide +kernel
theorem dX6_readsWord_120 : decode cX6_readsWord 120 = .ok (.iload_n 3, 1) := by decide +kernel
theorem dX6_readsWord_121 : decode cX6_readsWord 121 = .ok (.iastore, 1) := by decide +kernel
theorem dX6_readsWord_122 : decode cX6_readsWord 122 = .ok (.aload_n 0, 1) := by decide +kernel
theorem dX6_readsWord_123 : decode cX6_readsWord 123 = .ok (.getfield 28, 3) := by decide +kernel
theorem dX6_readsWord_126 : decode cX6_readsWord 126 = .ok (.iload_n 2, 1) := by decide +kernel
theorem dX6_readsWord_127 : decode cX6_readsWord 127 = .ok (.iconst 2, 1) := by decide +kernel
theorem dX6_readsWord_128 : decode cX6_readsWord 128 = .ok (.iadd, 1) := by decide +kernel
theorem dX6_readsWord_129 : decode cX6_readsWord 129 = .ok (.iload 4, 2) := by decide +kernel
theorem dX6_readsWord_131 : decode cX6_readsWord 131 = .ok (.iastore, 1) := by decide +kernel
theorem dX6_readsWord_132 : decode cX6_readsWord 132 = .ok (.aload_n 0, 1) := by decide +kernel
theorem dX6_readsWord_133 : decode cX6_readsWord 133 = .ok (.getfield 28, 3) := by decide +kernel
theorem dX6_readsWord_136 : decode cX6_readsWord 136 = .ok (.iconst 3, 1) := by decide +kernel
theorem dX6_readsWord_137 : decode cX6_readsWord 137 = .ok (.dup2, 1) := by decide +kernel
theorem dX6_readsWord_138 : decode cX6_readsWord 138 = .ok (.iaload, 1) := by decide +kernel
theorem dX6_readsWord_139 : decode cX6_readsWord 139 = .ok (.iconst 1, 1) := by decide +kernel
theorem dX6_readsWord_140 : decode cX6_readsWord 140 = .ok (.iadd, 1) := by decide +kernel
theorem dX6_readsWord_141 : decode cX6_readsWord 141 = .ok (.iastore, 1) := by decide +kernel
theorem dX6_readsWord_142 : decode cX6_readsWord 142 = .ok (.return_, 1) := by decide +kernel
theorem dX6_must_0 : decode cX6_must 0 = .ok (.aload_n 0, 1) := by decide +kernel
theorem dX6_must_1 : decode cX6_must 1 = .ok (.invokevirtual 101, 3) := by decide +kernel
theorem dX6_must_4 : decode cX6_must 4 = .ok (.ifCond .eq 14, 3) := by decide +kernel
theorem dX6_must_7 : decode cX6_must 7 = .ok (.iload_n 1, 1) := by decide +kernel
theorem dX6_must_8 : decode cX6_must 8 = .ok (.ifCond .ne 10, 3) := by decide +kernel
theorem dX6_must_11 : decode cX6_must 11 = .ok (.aload_n 0, 1) := by decide +kernel
theorem dX6_must_12 : decode cX6_must 12 = .ok (.iconst 0, 1) := by decide +kernel
theorem dX6_must_13 : decode cX6_must 13 = .ok (.iconst 1, 1) := by decide +kernel
theorem dX6_must_14 : decode cX6_must 14 = .ok (.invokevirtual 111, 3) := by decide +kernel
theorem dX6_must_17 : decode cX6_must 17 = .ok (.pop, 1) := by decide +kernel
theorem dX6_must_18 : decode cX6_must 18 = .ok (.return_, 1) := by decide +kernel
theorem dX6_river_0 : decode cX6_river 0 = .ok (.iconst 0, 1) := by decide +kernel
theorem dX6_river_1 : decode cX6_river 1 = .ok (.istore_n 1, 1) := by decide +kernel
theorem dX6_river_2 : decode cX6_river 2 = .ok (.iload_n 1, 1) := by decide +kernel
theorem dX6_river_3 : decode cX6_river 3 = .ok (.bipush 45, 2) := by decide +kernel
theorem dX6_river_5 : decode cX6_river 5 = .ok (.if_icmp .ge 16, 3) := by decide +kernel
theorem dX6_river_8 : decode cX6_river 8 = .ok (.aload_n 0, 1) := by decide +kernel
theorem dX6_river_9 : decode cX6_river 9 = .ok (.getfield 28, 3) := by decide +kernel
theorem dX6_river_12 : decode cX6_river 12 = .ok (.iload_n 1, 1) := by decide +kernel
theorem dX6_river_13 : decode cX6_river 13 = .ok (.iconst 0, 1) := by decide +kernel
theorem dX6_river_14 : decode cX6_river 14 = .ok (.iastore, 1) := by decide +kernel
theorem dX6_river_15 : decode cX6_river 15 = .ok (.iinc 1 1, 3) := by decide +kernel
theorem dX6_river_18 : decode cX6_river 18 = .ok (.goto (-16), 3) := by decide +kernel
theorem dX6_river_21 : decode cX6_river 21 = .ok (.aload_n 0, 1) := by decide +kernel
theorem dX6_river_22 : decode cX6_river 22 = .ok (.iconst 0, 1) := by decide +kernel
theorem dX6_river_23 : decode cX6_river 23 = .ok (.putfield 83, 3) := by decide +kernel
theorem dX6_river_26 : decode cX6_river 26 = .ok (.aload_n 0, 1) := by decide +kernel
theorem dX6_river_27 : decode cX6_river 27 = .ok (.iconst (-1), 1) := by decide +kernel
theorem dX6_river_28 : decode cX6_river 28 = .ok (.putfield 98, 3) := by decide +kernel
theorem dX6_river_31 : decode cX6_river 31 = .ok (.aload_n 0, 1) := by decide +kernel
theorem dX6_river_32 : decode cX6_river 32 = .ok (.invokevirtual 108, 3) := by decide +kernel
theorem dX6_river_35 : decode cX6_river 35 = .ok (.aload_n 0, 1) := by decide +kernel
theorem dX6_river_36 : decode cX6_river 36 = .ok (.aload_n 0, 1) := by decide +kernel
theorem dX6_river_37 : decode cX6_river 37 = .ok (.getfield 95, 3) := by decide +kernel
theorem dX6_river_40 : decode cX6_river 40 = .ok (.iconst 1, 1) := by decide +kernel
theorem dX6_river_41 : decode cX6_river 41 = .ok (.if_icmp .ne 16, 3) := by decide +kernel
theorem dX6_river_44 : decode cX6_river 44 = .ok (.aload_n 0, 1) := by decide +kernel
theorem dX6_river_45 : decode cX6_river 45 = .ok (.getfield 92, 3) := by decide +kernel
theorem dX6_river_48 : decode cX6_river 48 = .ok (.bipush 114, 2) := by decide +kernel
theorem dX6_river_50 : decode cX6_river 50 = .ok (.if_icmp .ne 7, 3) := by decide +kernel
theorem dX6_river_53 : decode cX6_river 53 = .ok (.iconst 1, 1) := by decide +kernel
theorem dX6_river_54 : decode cX6_river 54 = .ok (.goto 4, 3) := by decide +kernel
theorem dX6_river_57 : decode cX6_river 57 = .ok (.iconst 0, 1) := by decide +kernel
theorem dX6_river_58 : decode cX6_river 58 = .ok (.iconst 1, 1) := by decide +kernel
theorem dX6_river_59 : decode cX6_river 59 = .ok (.invokevirtual 111, 3) := by decide +kernel
theorem dX6_river_62 : decode cX6_river 62 = .ok (.pop, 1) := by decide +kernel
theorem dX6_river_63 : decode cX6_river 63 = .ok (.aload_n 0, 1) := by decide +kernel
theorem dX6_river_64 : decode cX6_river 64 = .ok (.getfield 28, 3) := by decide +kernel
theorem dX6_river_67 : decode cX6_river 67 = .ok (.iconst 0, 1) := by decide +kernel
theorem dX6_river_68 : decode cX6_river 68 = .ok (.aload_n 0, 1) := by decide +kernel
theorem dX6_river_69 : decode cX6_river 69 = .ok (.iconst 0, 1) := by decide +kernel
theorem dX6_river_70 : decode cX6_river 70 = .ok (.bipush 15, 2) := by decide +kernel
theorem dX6_river_72 : decode cX6_river 72 = .ok (.invokevirtual 115, 3) := by decide +kernel
theorem dX6_river_75 : decode cX6_river 75 = .ok (.iastore, 1) := by decide +kernel
theorem dX6_river_76 : decode cX6_river 76 = .ok (.aload_n 0, 1) := by decide +kernel
theorem dX6_river_77 : decode cX6_river 77 = .ok (.getfield 28, 3) := by decide +kernel
theorem dX6_river_80 : decode cX6_river 80 = .ok (.iconst 1, 1) := by decide +kernel
theorem dX6_river_81 : decode cX6_river 81 = .ok (.aload_n 0, 1) := by decide +kernel
theorem dX6_river_82 : decode cX6_river 82 = .ok (.iconst 0, 1) := by decide +kernel
theorem dX6_river_83 : decode cX6_river 83 = .ok (.bipush 10, 2) := by decide +kernel
theorem dX6_river_85 : decode cX6_river 85 = .ok (.invokevirtual 121, 3) := by decide +kernel
theorem dX6_river_88 : decode cX6_river 88 = .ok (.iastore, 1) := by decide +kernel
theorem dX6_river_89 : decode cX6_river 89 = .ok (.aload_n 0, 1) := by decide +kernel
theorem dX6_river_90 : decode cX6_river 90 = .ok (.aload_n 0, 1) := by decide +kernel
theorem dX6_river_91 : decode cX6_river 91 = .ok (.getfield 95, 3) := by decide +kernel
theorem dX6_river_94 : decode cX6_river 94 = .ok (.iconst 4, 1) := by decide +kernel
theorem dX6_river_95 : decode cX6_river 95 = .ok (.if_icmp .ne 7, 3) := by decide +kernel
theorem dX6_river_98 : decode cX6_river 98 = .ok (.iconst 1, 1) := by decide +kernel
theorem dX6_river_99 : decode cX6_river 99 = .ok (.goto 4, 3) := by decide +kernel
theorem dX6_river_102 : decode cX6_river 102 = .ok (.iconst 0, 1) := by decide +kernel
theorem dX6_river_103 : decode cX6_river 103 = .ok (.iconst 1, 1) := by decide +kernel
theorem dX6_river_104 : decode cX6_river 104 = .ok (.invokevirtual 111, 3) := by decide +kernel
theorem dX6_river_107 : decode cX6_river 107 = .ok (.pop, 1) := by decide +kernel
theorem dX6_river_108 : decode cX6_river 108 = .ok (.aload_n 0, 1) := by decide +kernel
theorem dX6_river_109 : decode cX6_river 109 = .ok (.invokevirtual 101, 3) := by decide +kernel
theorem dX6_river_112 : decode cX6_river 112 = .ok (.ifCond .eq 27, 3) := by decide +kernel
theorem dX6_river_115 : decode cX6_river 115 = .ok (.aload_n 0, 1) := by decide +kernel
theorem dX6_river_116 : decode cX6_river 116 = .ok (.getfield 95, 3) := by decide +kernel
theorem dX6_river_119 : decode cX6_river 119 = .ok (.iconst 1, 1) := by decide +kernel
theorem dX6_river_120 : decode cX6_river 120 = .ok (.if_icmp .ne 19, 3) := by decide +kernel
theorem dX6_river_123 : decode cX6_river 123 = .ok (.aload_n 0, 1) := by decide +kernel
theorem dX6_river_124 : decode cX6_river 124 = .ok (.getfield 92, 3) := by decide +kernel
theorem dX6_river_127 : decode cX6_river 127 = .ok (.bipush 99, 2) := by decide +kernel
theorem dX6_river_129 : decode cX6_river 129 = .ok (.if_icmp .ne 10, 3) := by decide +kernel
theorem dX6_river_132 : decode cX6_river 132 = .ok (.aload_n 0, 1) := by decide +kernel
theorem dX6_river_133 : decode cX6_river 133 = .ok (.invokevirtual 124, 3) := by decide +kernel
theorem dX6_river_136 : decode cX6_river 136 = .ok (.goto (-28), 3) := by decide +kernel
theorem dX6_river_139 : decode cX6_river 139 = .ok (.aload_n 0, 1) := by decide +kernel
theorem dX6_river_140 : decode cX6_river 140 = .ok (.aload_n 0, 1) := by decide +kernel
theorem dX6_river_141 : decode cX6_river 141 = .ok (.getfield 28, 3) := by decide +kernel
theorem dX6_river_144 : decode cX6_river 144 = .ok (.iconst 2, 1) := by decide +kernel
theorem dX6_river_145 : decode cX6_river 145 = .ok (.iaload, 1) := by decide +kernel
theorem dX6_river_146 : decode cX6_river 146 = .ok (.iconst 3, 1) := by decide +kernel
theorem dX6_river_147 : decode cX6_river 147 = .ok (.if_icmp .le 7, 3) := by decide +kernel
theorem dX6_river_150 : decode cX6_river 150 = .ok (.iconst 1, 1) := by decide +kernel
theorem dX6_river_151 : decode cX6_river 151 = .ok (.goto 4, 3) := by decide +kernel
theorem dX6_river_154 : decode cX6_river 154 = .ok (.iconst 0, 1) := by decide +kernel
theorem dX6_river_155 : decode cX6_river 155 = .ok (.invokevirtual 127, 3) := by decide +kernel
theorem dX6_river_158 : decode cX6_river 158 = .ok (.aload_n 0, 1) := by decide +kernel
theorem dX6_river_159 : decode cX6_river 159 = .ok (.invokevirtual 101, 3) := by decide +kernel
theorem dX6_river_162 : decode cX6_river 162 = .ok (.ifCond .eq 28, 3) := by decide +kernel
theorem dX6_river_165 : decode cX6_river 165 = .ok (.aload_n 0, 1) := by decide +kernel
theorem dX6_river_166 : decode cX6_river 166 = .ok (.getfield 95, 3) := by decide +kernel
theorem dX6_river_169 : decode cX6_river 169 = .ok (.iconst 1, 1) := by decide +kernel
theorem dX6_river_170 : decode cX6_river 170 = .ok (.if_icmp .ne 20, 3) := by decide +kernel
theorem dX6_river_173 : decode cX6_river 173 = .ok (.aload_n 0, 1) := by decide +kernel
theorem dX6_river_174 : decode cX6_river 174 = .ok (.getfield 92, 3) := by decide +kernel
theorem dX6_river_177 : decode cX6_river 177 = .ok (.invokestatic 118, 3) := by decide +kernel
theorem dX6_river_180 : decode cX6_river 180 = .ok (.ifCond .le 10, 3) := by decide +kernel
theorem dX6_river_183 : decode cX6_river 183 = .ok (.aload_n 0, 1) := by decide +kernel
theorem dX6_river_184 : decode cX6_river 184 = .ok (.invokevirtual 131, 3) := by decide +kernel
theorem dX6_river_187 : decode cX6_river 187 = .ok (.goto (-29), 3) := by decide +kernel
theorem dX6_river_190 : decode cX6_river 190 = .ok (.aload_n 0, 1) := by decide +kernel
theorem dX6_river_191 : decode cX6_river 191 = .ok (.aload_n 0, 1) := by decide +kernel
theorem dX6_river_192 : decode cX6_river 192 = .ok (.getfield 95, 3) := by decide +kernel
theorem dX6_river_195 : decode cX6_river 195 = .ok (.ifCond .ne 7, 3) := by decide +kernel
theorem dX6_river_198 : decode cX6_river 198 = .ok (.iconst 1, 1) := by decide +kernel
theorem dX6_river_199 : decode cX6_river 199 = .ok (.goto 4, 3) := by decide +kernel
theorem dX6_river_202 : decode cX6_river 202 = .ok (.iconst 0, 1) := by decide +kernel
theorem dX6_river_203 : decode cX6_river 203 = .ok (.invokevirtual 127, 3) := by decide +kernel
theorem dX6_river_206 : decode cX6_river 206 = .ok (.aload_n 0, 1) := by decide +kernel
theorem dX6_river_207 : decode cX6_river 207 = .ok (.iconst 0, 1) := by decide +kernel
theorem dX6_river_208 : decode cX6_river 208 = .ok (.putfield 79, 3) := by decide +kernel
theorem dX6_river_211 : decode cX6_river 211 = .ok (.aload_n 0, 1) := by decide +kernel
theorem dX6_river_212 : decode cX6_river 212 = .ok (.invokevirtual 101, 3) := by decide +kernel
theorem dX6_river_215 : decode cX6_river 215 = .ok (.ifCond .ne 11, 3) := by decide +kernel
theorem dX6_river_218 : decode cX6_river 218 = .ok (.ldc 134, 2) := by decide +kernel
theorem dX6_river_220 : decode cX6_river 220 = .ok (.aload_n 0, 1) := by decide +kernel
theorem dX6_river_221 : decode cX6_river 221 = .ok (.getfield 98, 3) := by decide +kernel
theorem dX6_river_224 : decode cX6_river 224 = .ok (.isub, 1) := by decide +kernel
theorem dX6_river_225 : decode cX6_river 225 = .ok (.ireturn, 1) := by decide +kernel
theorem dX6_river_226 : decode cX6_river 226 = .ok (.aload_n 0, 1) := by decide +kernel
theorem dX6_river_227 : decode cX6_river 227 = .ok (.getfield 28, 3) := by decide +kernel
theorem dX6_river_230 : decode cX6_river 230 = .ok (.iconst 0, 1) := by decide +kernel
theorem dX6_river_231 : decode cX6_river 231 = .ok (.aload_n 0, 1) := by decide +kernel
theorem dX6_river_232 : decode cX6_river 232 = .ok (.getfield 25, 3) := by decide +kernel
theorem dX6_river_235 : decode cX6_river 235 = .ok (.iconst 0, 1) := by decide +kernel
theorem dX6_river_236 : decode cX6_river 236 = .ok (.invokestatic 135, 3) := by decide +kernel
theorem dX6_river_239 : decode cX6_river 239 = .ok (.aload_n 0, 1) := by decide +kernel
theorem dX6_river_240 : decode cX6_river 240 = .ok (.iconst 0, 1) := by decide +kernel
theorem dX6_river_241 : decode cX6_river 241 = .ok (.putfield 139, 3) := by decide +kernel
theorem dX6_river_244 : decode cX6_river 244 = .ok (.aload_n 0, 1) := by decide +kernel
theorem dX6_river_245 : decode cX6_river 245 = .ok (.getfield 25, 3) := by decide +kernel
theorem dX6_river_248 : decode cX6_river 248 = .ok (.iconst 2, 1) := by decide +kernel
theorem dX6_river_249 : decode cX6_river 249 = .ok (.iaload, 1) := by decide +kernel
theorem dX6_river_250 : decode cX6_river 250 = .ok (.ireturn, 1) := by decide +kernel
theorem dX6_fault_0 : decode cX6_fault 0 = .ok (.aload_n 0, 1) := by decide +kernel
theorem dX6_fault_1 : decode cX6_fault 1 = .ok (.getfield 105, 3) := by decide +kernel
theorem dX6_fault_4 : decode cX6_fault 4 = .ok (.ireturn, 1) := by decide +kernel
theorem dX6_isRiver_0 : decode cX6_isRiver 0 = .ok (.aload_n 0, 1) := by decide +kernel
theorem dX6_isRiver_1 : decode cX6_isRiver 1 = .ok (.getfield 25, 3) := by decide +kernel
theorem dX6_isRiver_4 : decode cX6_isRiver 4 = .ok (.iconst 2, 1) := by decide +kernel
theorem dX6_isRiver_5 : decode cX6_isRiver 5 = .ok (.iaload, 1) := by decide +kernel
theorem dX6_isRiver_6 : decode cX6_isRiver 6 = .ok (.ifCond .le 7, 3) := by decide +kernel
theorem dX6_isRiver_9 : decode cX6_isRiver 9 = .ok (.iconst 1, 1) := by decide +kernel
theorem dX6_isRiver_10 : decode cX6_isRiver 10 = .ok (.goto 4, 3) := by decide +kernel
theorem dX6_isRiver_13 : decode cX6_isRiver 13 = .ok (.iconst 0, 1) := by decide +kernel
theorem dX6_isRiver_14 : decode cX6_isRiver 14 = .ok (.ireturn, 1) := by decide +kernel
theorem dX6_isWord_0 : decode cX6_isWord 0 = .ok (.iload_n 1, 1) := by decide +kernel
theorem dX6_isWord_1 : decode cX6_isWord 1 = .ok (.iconst 0, 1) := by decide +kernel
theorem dX6_isWord_2 : decode cX6_isWord 2 = .ok (.aload_n 0, 1) := by decide +kernel
theorem dX6_isWord_3 : decode cX6_isWord 3 = .ok (.getfield 25, 3) := by decide +kernel
theorem dX6_isWord_6 : decode cX6_isWord 6 = .ok (.iconst 3, 1) := by decide +kernel
theorem dX6_isWord_7 : decode cX6_isWord 7 = .ok (.iaload, 1) := by decide +kernel
theorem dX6_isWord_8 : decode cX6_isWord 8 = .ok (.iconst 1, 1) := by decide +kernel
theorem dX6_isWord_9 : decode cX6_isWord 9 = .ok (.isub, 1) := by decide +kernel
theorem dX6_isWord_10 : decode cX6_isWord 10 = .ok (.invokestatic 53, 3) := by decide +kernel
theorem dX6_isWord_13 : decode cX6_isWord 13 = .ok (.ireturn, 1) := by decide +kernel
theorem dX6_isCell_0 : decode cX6_isCell 0 = .ok (.iload_n 1, 1) := by decide +kernel
theorem dX6_isCell_1 : decode cX6_isCell 1 = .ok (.iconst 0, 1) := by decide +kernel
theorem dX6_isCell_2 : decode cX6_isCell 2 = .ok (.aload_n 0, 1) := by decide +kernel
theorem dX6_isCell_3 : decode cX6_isCell 3 = .ok (.getfield 25, 3) := by decide +kernel
theorem dX6_isCell_6 : decode cX6_isCell 6 = .ok (.iconst 2, 1) := by decide +kernel
theorem dX6_isCell_7 : decode cX6_isCell 7 = .ok (.iaload, 1) := by decide +kernel
theorem dX6_isCell_8 : decode cX6_isCell 8 = .ok (.iconst 1, 1) := by decide +kernel
theorem dX6_isCell_9 : decode cX6_isCell 9 = .ok (.isub, 1) := by decide +kernel
theorem dX6_isCell_10 : decode cX6_isCell 10 = .ok (.invokestatic 53, 3) := by decide +kernel
theorem dX6_isCell_13 : decode cX6_isCell 13 = .ok (.ireturn, 1) := by decide +kernel
theorem dX6_isGone_0 : decode cX6_isGone 0 = .ok (.aload_n 0, 1) := by decide +kernel
theorem dX6_isGone_1 : decode cX6_isGone 1 = .ok (.getfield 25, 3) := by decide +kernel
theorem dX6_isGone_4 : decode cX6_isGone 4 = .ok (.bipush 17, 2) := by decide +kernel
theorem dX6_isGone_6 : decode cX6_isGone 6 = .ok (.iconst 4, 1) := by decide +kernel
theorem dX6_isGone_7 : decode cX6_isGone 7 = .ok (.iload_n 1, 1) := by decide +kernel
theorem dX6_isGone_8 : decode cX6_isGone 8 = .ok (.imul, 1) := by decide +kernel
theorem dX6_isGone_9 : decode cX6_isGone 9 = .ok (.iadd, 1) := by decide +kernel
theorem dX6_isGone_10 : decode cX6_isGone 10 = .ok (.iconst 3, 1) := by decide +kernel
theorem dX6_isGone_11 : decode cX6_isGone 11 = .ok (.iadd, 1) := by decide +kernel
theorem dX6_isGone_12 : decode cX6_isGone 12 = .ok (.iaload, 1) := by decide +kernel
theorem dX6_isGone_13 : decode cX6_isGone 13 = .ok (.iconst 1, 1) := by decide +kernel
theorem dX6_isGone_14 : decode cX6_isGone 14 = .ok (.if_icmp .ne 7, 3) := by decide +kernel
theorem dX6_isGone_17 : decode cX6_isGone 17 = .ok (.iconst 1, 1) := by decide +kernel
theorem dX6_isGone_18 : decode cX6_isGone 18 = .ok (.goto 4, 3) := by decide +kernel
theorem dX6_isGone_21 : decode cX6_isGone 21 = .ok (.iconst 0, 1) := by decide +kernel
theorem dX6_isGone_22 : decode cX6_isGone 22 = .ok (.ireturn, 1) := by decide +kernel
theorem dX6_pace_0 : decode cX6_pace 0 = .ok (.aload_n 0, 1) := by decide +kernel
theorem dX6_pace_1 : decode cX6_pace 1 = .ok (.iconst 5, 1) := by decide +kernel
theorem dX6_pace_2 : decode cX6_pace 2 = .ok (.iload_n 1, 1) := by decide +kernel
theorem dX6_pace_3 : decode cX6_pace 3 = .ok (.iadd, 1) := by decide +kernel
theorem dX6_pace_4 : decode cX6_pace 4 = .ok (.iaload, 1) := by decide +kernel
theorem dX6_pace_5 : decode cX6_pace 5 = .ok (.ifCond .ne 7, 3) := by decide +kernel
theorem dX6_pace_8 : decode cX6_pace 8 = .ok (.iconst 0, 1) := by decide +kernel
theorem dX6_pace_9 : decode cX6_pace 9 = .ok (.goto 28, 3) := by decide +kernel
theorem dX6_pace_12 : decode cX6_pace 12 = .ok (.aload_n 0, 1) := by decide +kernel
theorem dX6_pace_13 : decode cX6_pace 13 = .ok (.iconst 5, 1) := by decide +kernel
theorem dX6_pace_14 : decode cX6_pace 14 = .ok (.iload_n 1, 1) := by decide +kernel
theorem dX6_pace_15 : decode cX6_pace 15 = .ok (.iadd, 1) := by decide +kernel
theorem dX6_pace_16 : decode cX6_pace 16 = .ok (.iaload, 1) := by decide +kernel
theorem dX6_pace_17 : decode cX6_pace 17 = .ok (.aload_n 0, 1) := by decide +kernel
theorem dX6_pace_18 : decode cX6_pace 18 = .ok (.iconst 0, 1) := by decide +kernel
theorem dX6_pace_19 : decode cX6_pace 19 = .ok (.iaload, 1) := by decide +kernel
theorem dX6_pace_20 : decode cX6_pace 20 = .ok (.aload_n 0, 1) := by decide +kernel
theorem dX6_pace_21 : decode cX6_pace 21 = .ok (.iconst 4, 1) := by decide +kernel
theorem dX6_pace_22 : decode cX6_pace 22 = .ok (.iaload, 1) := by decide +kernel
theorem dX6_pace_23 : decode cX6_pace 23 = .ok (.iconst 4, 1) := by decide +kernel
theorem dX6_pace_24 : decode cX6_pace 24 = .ok (.irem, 1) := by decide +kernel
theorem dX6_pace_25 : decode cX6_pace 25 = .ok (.invokestatic 142, 3) := by decide +kernel
theorem dX6_pace_28 : decode cX6_pace 28 = .ok (.ifCond .eq 7, 3) := by decide +kernel
theorem dX6_pace_31 : decode cX6_pace 31 = .ok (.iconst 1, 1) := by decide +kernel
theorem dX6_pace_32 : decode cX6_pace 32 = .ok (.goto 4, 3) := by decide +kernel
theorem dX6_pace_35 : decode cX6_pace 35 = .ok (.iconst 0, 1) := by decide +kernel
theorem dX6_pace_36 : decode cX6_pace 36 = .ok (.iadd, 1) := by decide +kernel
theorem dX6_pace_37 : decode cX6_pace 37 = .ok (.ireturn, 1) := by decide +kernel
theorem dX6_upFrom_0 : decode cX6_upFrom 0 = .ok (.iload_n 1, 1) := by decide +kernel
theorem dX6_upFrom_1 : decode cX6_upFrom 1 = .ok (.aload_n 0, 1) := by decide +kernel
theorem dX6_upFrom_2 : decode cX6_upFrom 2 = .ok (.iconst 1, 1) := by decide +kernel
theorem dX6_upFrom_3 : decode cX6_upFrom 3 = .ok (.iaload, 1) := by decide +kernel
theorem dX6_upFrom_4 : decode cX6_upFrom 4 = .ok (.iconst 1, 1) := by decide +kernel
theorem dX6_upFrom_5 : decode cX6_upFrom 5 = .ok (.iadd, 1) := by decide +kernel
theorem dX6_upFrom_6 : decode cX6_upFrom 6 = .ok (.if_icmp .ne 13, 3) := by decide +kernel
theorem dX6_upFrom_9 : decode cX6_upFrom 9 = .ok (.iload_n 2, 1) := by decide +kernel
theorem dX6_upFrom_10 : decode cX6_upFrom 10 = .ok (.bipush 20, 2) := by decide +kernel
theorem dX6_upFrom_12 : decode cX6_upFrom 12 = .ok (.if_icmp .ge 7, 3) := by decide +kernel
theorem dX6_upFrom_15 : decode cX6_upFrom 15 = .ok (.iconst 1, 1) := by decide +kernel
theorem dX6_upFrom_16 : decode cX6_upFrom 16 = .ok (.goto 4, 3) := by decide +kernel
theorem dX6_upFrom_19 : decode cX6_upFrom 19 = .ok (.iconst 0, 1) := by decide +kernel
theorem dX6_upFrom_20 : decode cX6_upFrom 20 = .ok (.istore_n 3, 1) := by decide +kernel
theorem dX6_upFrom_21 : decode cX6_upFrom 21 = .ok (.iload_n 1, 1) := by decide +kernel
theorem dX6_upFrom_22 : decode cX6_upFrom 22 = .ok (.ifCond .eq 16, 3) := by decide +kernel
theorem dX6_upFrom_25 : decode cX6_upFrom 25 = .ok (.aload_n 0, 1) := by decide +kernel
theorem dX6_upFrom_26 : decode cX6_upFrom 26 = .ok (.iload_n 1, 1) := by decide +kernel
theorem dX6_upFrom_27 : decode cX6_upFrom 27 = .ok (.invokestatic 146, 3) := by decide +kernel
theorem dX6_upFrom_30 : decode cX6_upFrom 30 = .ok (.iconst 2, 1) := by decide +kernel
theorem dX6_upFrom_31 : decode cX6_upFrom 31 = .ok (.if_icmp .gt 7, 3) := by decide +kernel
theorem dX6_upFrom_34 : decode cX6_upFrom 34 = .ok (.iload_n 3, 1) := by decide +kernel
theorem dX6_upFrom_35 : decode cX6_upFrom 35 = .ok (.ifCond .eq 7, 3) := by decide +kernel
theorem dX6_upFrom_38 : decode cX6_upFrom 38 = .ok (.iload_n 1, 1) := by decide +kernel
theorem dX6_upFrom_39 : decode cX6_upFrom 39 = .ok (.goto 6, 3) := by decide +kernel
theorem dX6_upFrom_42 : decode cX6_upFrom 42 = .ok (.iload_n 1, 1) := by decide +kernel
theorem dX6_upFrom_43 : decode cX6_upFrom 43 = .ok (.iconst 1, 1) := by decide +kernel
theorem dX6_upFrom_44 : decode cX6_upFrom 44 = .ok (.isub, 1) := by decide +kernel
theorem dX6_upFrom_45 : decode cX6_upFrom 45 = .ok (.ireturn, 1) := by decide +kernel
theorem dX6_goesTo_0 : decode cX6_goesTo 0 = .ok (.aload_n 0, 1) := by decide +kernel
theorem dX6_goesTo_1 : decode cX6_goesTo 1 = .ok (.bipush 17, 2) := by decide +kernel
theorem dX6_goesTo_3 : decode cX6_goesTo 3 = .ok (.iconst 4, 1) := by decide +kernel
theorem dX6_goesTo_4 : decode cX6_goesTo 4 = .ok (.iload_n 1, 1) := by decide +kernel
theorem dX6_goesTo_5 : decode cX6_goesTo 5 = .ok (.imul, 1) := by decide +kernel
theorem dX6_goesTo_6 : decode cX6_goesTo 6 = .ok (.iadd, 1) := by decide +kernel
theorem dX6_goesTo_7 : decode cX6_goesTo 7 = .ok (.iconst 2, 1) := by decide +kernel
theorem dX6_goesTo_8 : decode cX6_goesTo 8 = .ok (.iadd, 1) := by decide +kernel
theorem dX6_goesTo_9 : decode cX6_goesTo 9 = .ok (.iaload, 1) := by decide +kernel
theorem dX6_goesTo_10 : decode cX6_goesTo 10 = .ok (.istore_n 2, 1) := by decide +kernel
theorem dX6_goesTo_11 : decode cX6_goesTo 11 = .ok (.aload_n 0, 1) := by decide +kernel
theorem dX6_goesTo_12 : decode cX6_goesTo 12 = .ok (.bipush 17, 2) := by decide +kernel
theorem dX6_goesTo_14 : decode cX6_goesTo 14 = .ok (.iconst 4, 1) := by decide +kernel
theorem dX6_goesTo_15 : decode cX6_goesTo 15 = .ok (.iload_n 1, 1) := by decide +kernel
theorem dX6_goesTo_16 : decode cX6_goesTo 16 = .ok (.imul, 1) := by decide +kernel
theorem dX6_goesTo_17 : decode cX6_goesTo 17 = .ok (.iadd, 1) := by decide +kernel
theorem dX6_goesTo_18 : decode cX6_goesTo 18 = .ok (.iconst 1, 1) := by decide +kernel
theorem dX6_goesTo_19 : decode cX6_goesTo 19 = .ok (.iadd, 1) := by decide +kernel
theorem dX6_goesTo_20 : decode cX6_goesTo 20 = .ok (.iaload, 1) := by decide +kernel
theorem dX6_goesTo_21 : decode cX6_goesTo 21 = .ok (.istore_n 3, 1) := by decide +kernel
theorem dX6_goesTo_22 : decode cX6_goesTo 22 = .ok (.aload_n 0, 1) := by decide +kernel
theorem dX6_goesTo_23 : decode cX6_goesTo 23 = .ok (.iload_n 2, 1) := by decide +kernel
theorem dX6_goesTo_24 : decode cX6_goesTo 24 = .ok (.invokestatic 146, 3) := by decide +kernel
theorem dX6_goesTo_27 : decode cX6_goesTo 27 = .ok (.istore 4, 2) := by decide +kernel
theorem dX6_goesTo_29 : decode cX6_goesTo 29 = .ok (.aload_n 0, 1) := by decide +kernel
theorem dX6_goesTo_30 : decode cX6_goesTo 30 = .ok (.bipush 17, 2) := by decide +kernel
theorem dX6_goesTo_32 : decode cX6_goesTo 32 = .ok (.iconst 4, 1) := by decide +kernel
theorem dX6_goesTo_33 : decode cX6_goesTo 33 = .ok (.iload_n 1, 1) := by decide +kernel
theorem dX6_goesTo_34 : decode cX6_goesTo 34 = .ok (.imul, 1) := by decide +kernel
theorem dX6_goesTo_35 : decode cX6_goesTo 35 = .ok (.iadd, 1) := by decide +kernel
theorem dX6_goesTo_36 : decode cX6_goesTo 36 = .ok (.iaload, 1) := by decide +kernel
theorem dX6_goesTo_37 : decode cX6_goesTo 37 = .ok (.tableswitch 66 1 4 #[31, 36, 41, 59], 31) := by decide +kernel
theorem dX6_goesTo_68 : decode cX6_goesTo 68 = .ok (.iload_n 2, 1) := by decide +kernel
theorem dX6_goesTo_69 : decode cX6_goesTo 69 = .ok (.iload 4, 2) := by decide +kernel
theorem dX6_goesTo_71 : decode cX6_goesTo 71 = .ok (.iadd, 1) := by decide +kernel
theorem dX6_goesTo_72 : decode cX6_goesTo 72 = .ok (.ireturn, 1) := by decide +kernel
theorem dX6_goesTo_73 : decode cX6_goesTo 73 = .ok (.iload_n 2, 1) := by decide +kernel
theorem dX6_goesTo_74 : decode cX6_goesTo 74 = .ok (.iload 4, 2) := by decide +kernel
theorem dX6_goesTo_76 : decode cX6_goesTo 76 = .ok (.iadd, 1) := by decide +kernel
theorem dX6_goesTo_77 : decode cX6_goesTo 77 = .ok (.ireturn, 1) := by decide +kernel
theorem dX6_goesTo_78 : decode cX6_goesTo 78 = .ok (.iload_n 2, 1) := by decide +kernel
theorem dX6_goesTo_79 : decode cX6_goesTo 79 = .ok (.iload 4, 2) := by decide +kernel
theorem dX6_goesTo_81 : decode cX6_goesTo 81 = .ok (.iconst 1, 1) := by decide +kernel
theorem dX6_goesTo_82 : decode cX6_goesTo 82 = .ok (.if_icmp .le 10, 3) := by decide +kernel
theorem dX6_goesTo_85 : decode cX6_goesTo 85 = .ok (.iload 4, 2) := by decide +kernel
theorem dX6_goesTo_87 : decode cX6_goesTo 87 = .ok (.iconst 1, 1) := by decide +kernel
theorem dX6_goesTo_88 : decode cX6_goesTo 88 = .ok (.isub, 1) := by decide +kernel
theorem dX6_goesTo_89 : decode cX6_goesTo 89 = .ok (.goto 5, 3) := by decide +kernel
theorem dX6_goesTo_92 : decode cX6_goesTo 92 = .ok (.iload 4, 2) := by decide +kernel
theorem dX6_goesTo_94 : decode cX6_goesTo 94 = .ok (.iadd, 1) := by decide +kernel
theorem dX6_goesTo_95 : decode cX6_goesTo 95 = .ok (.ireturn, 1) := by decide +kernel
theorem dX6_goesTo_96 : decode cX6_goesTo 96 = .ok (.aload_n 0, 1) := by decide +kernel
theorem dX6_goesTo_97 : decode cX6_goesTo 97 = .ok (.iload_n 2, 1) := by decide +kernel
theorem dX6_goesTo_98 : decode cX6_goesTo 98 = .ok (.iload_n 3, 1) := by decide +kernel
theorem dX6_goesTo_99 : decode cX6_goesTo 99 = .ok (.invokestatic 150, 3) := by decide +kernel
theorem dX6_goesTo_102 : decode cX6_goesTo 102 = .ok (.ireturn, 1) := by decide +kernel
theorem dX6_goesTo_103 : decode cX6_goesTo 103 = .ok (.aload_n 0, 1) := by decide +kernel
theorem dX6_goesTo_104 : decode cX6_goesTo 104 = .ok (.iload_n 2, 1) := by decide +kernel
theorem dX6_goesTo_105 : decode cX6_goesTo 105 = .ok (.iload_n 3, 1) := by decide +kernel
theorem dX6_goesTo_106 : decode cX6_goesTo 106 = .ok (.invokestatic 150, 3) := by decide +kernel
theorem dX6_goesTo_109 : decode cX6_goesTo 109 = .ok (.istore 5, 2) := by decide +kernel
theorem dX6_goesTo_111 : decode cX6_goesTo 111 = .ok (.aload_n 0, 1) := by decide +kernel
theorem dX6_goesTo_112 : decode cX6_goesTo 112 = .ok (.iconst 4, 1) := by decide +kernel
theorem dX6_goesTo_113 : decode cX6_goesTo 113 = .ok (.iaload, 1) := by decide +kernel
theorem dX6_goesTo_114 : decode cX6_goesTo 114 = .ok (.iconst 2, 1) := by decide +kernel
theorem dX6_goesTo_115 : decode cX6_goesTo 115 = .ok (.irem, 1) := by decide +kernel
theorem dX6_goesTo_116 : decode cX6_goesTo 116 = .ok (.ifCond .ne 13, 3) := by decide +kernel
theorem dX6_goesTo_119 : decode cX6_goesTo 119 = .ok (.aload_n 0, 1) := by decide +kernel
theorem dX6_goesTo_120 : decode cX6_goesTo 120 = .ok (.iload 5, 2) := by decide +kernel
theorem dX6_goesTo_122 : decode cX6_goesTo 122 = .ok (.iload_n 3, 1) := by decide +kernel
theorem dX6_goesTo_123 : decode cX6_goesTo 123 = .ok (.invokestatic 150, 3) := by decide +kernel
theorem dX6_goesTo_126 : decode cX6_goesTo 126 = .ok (.goto 5, 3) := by decide +kernel
theorem dX6_goesTo_129 : decode cX6_goesTo 129 = .ok (.iload 5, 2) := by decide +kernel
theorem dX6_goesTo_131 : decode cX6_goesTo 131 = .ok (.ireturn, 1) := by decide +kernel
theorem dX6_goes_0 : decode cX6_goes 0 = .ok (.bipush 17, 2) := by decide +kernel
theorem dX6_goes_2 : decode cX6_goes 2 = .ok (.iconst 4, 1) := by decide +kernel
theorem dX6_goes_3 : decode cX6_goes 3 = .ok (.iload_n 1, 1) := by decide +kernel
theorem dX6_goes_4 : decode cX6_goes 4 = .ok (.imul, 1) := by decide +kernel
theorem dX6_goes_5 : decode cX6_goes 5 = .ok (.iadd, 1) := by decide +kernel
theorem dX6_goes_6 : decode cX6_goes 6 = .ok (.istore_n 2, 1) := by decide +kernel
theorem dX6_goes_7 : decode cX6_goes 7 = .ok (.aload_n 0, 1) := by decide +kernel
theorem dX6_goes_8 : decode cX6_goes 8 = .ok (.iload_n 2, 1) := by decide +kernel
theorem dX6_goes_9 : decode cX6_goes 9 = .ok (.iconst 2, 1) := by decide +kernel
theorem dX6_goes_10 : decode cX6_goes 10 = .ok (.iadd, 1) := by decide +kernel
theorem dX6_goes_11 : decode cX6_goes 11 = .ok (.iaload, 1) := by decide +kernel
theorem dX6_goes_12 : decode cX6_goes 12 = .ok (.istore_n 3, 1) := by decide +kernel
theorem dX6_goes_13 : decode cX6_goes 13 = .ok (.aload_n 0, 1) := by decide +kernel
theorem dX6_goes_14 : decode cX6_goes 14 = .ok (.iload_n 1, 1) := by decide +kernel
theorem dX6_goes_15 : decode cX6_goes 15 = .ok (.invokestatic 154, 3) := by decide +kernel
theorem dX6_goes_18 : decode cX6_goes 18 = .ok (.istore 4, 2) := by decide +kernel
theorem dX6_goes_20 : decode cX6_goes 20 = .ok (.iload_n 3, 1) := by decide +kernel
theorem dX6_goes_21 : decode cX6_goes 21 = .ok (.aload_n 0, 1) := by decide +kernel
theorem dX6_goes_22 : decode cX6_goes 22 = .ok (.iconst 1, 1) := by decide +kernel
theorem dX6_goes_23 : decode cX6_goes 23 = .ok (.iaload, 1) := by decide +kernel
theorem dX6_goes_24 : decode cX6_goes 24 = .ok (.if_icmp .gt 20, 3) := by decide +kernel
theorem dX6_goes_27 : decode cX6_goes 27 = .ok (.iload 4, 2) := by decide +kernel
theorem dX6_goes_29 : decode cX6_goes 29 = .ok (.aload_n 0, 1) := by decide +kernel
theorem dX6_goes_30 : decode cX6_goes 30 = .ok (.iconst 1, 1) := by decide +kernel
theorem dX6_goes_31 : decode cX6_goes 31 = .ok (.iaload, 1) := by decide +kernel
theorem dX6_goes_32 : decode cX6_goes 32 = .ok (.if_icmp .le 12, 3) := by decide +kernel
theorem dX6_goes_35 : decode cX6_goes 35 = .ok (.aload_n 0, 1) := by decide +kernel
theorem dX6_goes_36 : decode cX6_goes 36 = .ok (.iload_n 2, 1) := by decide +kernel
theorem dX6_goes_37 : decode cX6_goes 37 = .ok (.iconst 1, 1) := by decide +kernel
theorem dX6_goes_38 : decode cX6_goes 38 = .ok (.iadd, 1) := by decide +kernel
theorem dX6_goes_39 : decode cX6_goes 39 = .ok (.dup2, 1) := by decide +kernel
theorem dX6_goes_40 : decode cX6_goes 40 = .ok (.iaload, 1) := by decide +kernel
theorem dX6_goes_41 : decode cX6_goes 41 = .ok (.iconst 2, 1) := by decide +kernel
theorem dX6_goes_42 : decode cX6_goes 42 = .ok (.idiv, 1) := by decide +kernel
theorem dX6_goes_43 : decode cX6_goes 43 = .ok (.iastore, 1) := by decide +kernel
theorem dX6_goes_44 : decode cX6_goes 44 = .ok (.aload_n 0, 1) := by decide +kernel
theorem dX6_goes_45 : decode cX6_goes 45 = .ok (.iload_n 2, 1) := by decide +kernel
theorem dX6_goes_46 : decode cX6_goes 46 = .ok (.iaload, 1) := by decide +kernel
theorem dX6_goes_47 : decode cX6_goes 47 = .ok (.iconst 2, 1) := by decide +kernel
theorem dX6_goes_48 : decode cX6_goes 48 = .ok (.if_icmp .ne 20, 3) := by decide +kernel
theorem dX6_goes_51 : decode cX6_goes 51 = .ok (.aload_n 0, 1) := by decide +kernel
theorem dX6_goes_52 : decode cX6_goes 52 = .ok (.iload_n 2, 1) := by decide +kernel
theorem dX6_goes_53 : decode cX6_goes 53 = .ok (.iconst 1, 1) := by decide +kernel
theorem dX6_goes_54 : decode cX6_goes 54 = .ok (.iadd, 1) := by decide +kernel
theorem dX6_goes_55 : decode cX6_goes 55 = .ok (.iaload, 1) := by decide +kernel
theorem dX6_goes_56 : decode cX6_goes 56 = .ok (.ifCond .le 12, 3) := by decide +kernel
theorem dX6_goes_59 : decode cX6_goes 59 = .ok (.aload_n 0, 1) := by decide +kernel
theorem dX6_goes_60 : decode cX6_goes 60 = .ok (.iload_n 2, 1) := by decide +kernel
theorem dX6_goes_61 : decode cX6_goes 61 = .ok (.iconst 1, 1) := by decide +kernel
theorem dX6_goes_62 : decode cX6_goes 62 = .ok (.iadd, 1) := by decide +kernel
theorem dX6_goes_63 : decode cX6_goes 63 = .ok (.dup2, 1) := by decide +kernel
theorem dX6_goes_64 : decode cX6_goes 64 = .ok (.iaload, 1) := by decide +kernel
theorem dX6_goes_65 : decode cX6_goes 65 = .ok (.iconst 1, 1) := by decide +kernel
theorem dX6_goes_66 : decode cX6_goes 66 = .ok (.isub, 1) := by decide +kernel
theorem dX6_goes_67 : decode cX6_goes 67 = .ok (.iastore, 1) := by decide +kernel
theorem dX6_goes_68 : decode cX6_goes 68 = .ok (.iload 4, 2) := by decide +kernel
theorem dX6_goes_70 : decode cX6_goes 70 = .ok (.aload_n 0, 1) := by decide +kernel
theorem dX6_goes_71 : decode cX6_goes 71 = .ok (.iconst 2, 1) := by decide +kernel
theorem dX6_goes_72 : decode cX6_goes 72 = .ok (.iaload, 1) := by decide +kernel
theorem dX6_goes_73 : decode cX6_goes 73 = .ok (.if_icmp .lt 7, 3) := by decide +kernel
theorem dX6_goes_76 : decode cX6_goes 76 = .ok (.iconst 1, 1) := by decide +kernel
theorem dX6_goes_77 : decode cX6_goes 77 = .ok (.goto 4, 3) := by decide +kernel
theorem dX6_goes_80 : decode cX6_goes 80 = .ok (.iconst 0, 1) := by decide +kernel
theorem dX6_goes_81 : decode cX6_goes 81 = .ok (.istore 5, 2) := by decide +kernel
theorem dX6_goes_83 : decode cX6_goes 83 = .ok (.aload_n 0, 1) := by decide +kernel
theorem dX6_goes_84 : decode cX6_goes 84 = .ok (.iload_n 2, 1) := by decide +kernel
theorem dX6_goes_85 : decode cX6_goes 85 = .ok (.iconst 2, 1) := by decide +kernel
theorem dX6_goes_86 : decode cX6_goes 86 = .ok (.iadd, 1) := by decide +kernel
theorem dX6_goes_87 : decode cX6_goes 87 = .ok (.iload 5, 2) := by decide +kernel
theorem dX6_goes_89 : decode cX6_goes 89 = .ok (.ifCond .eq 7, 3) := by decide +kernel
theorem dX6_goes_92 : decode cX6_goes 92 = .ok (.iload_n 3, 1) := by decide +kernel
theorem dX6_goes_93 : decode cX6_goes 93 = .ok (.goto 5, 3) := by decide +kernel
theorem dX6_goes_96 : decode cX6_goes 96 = .ok (.iload 4, 2) := by decide +kernel
theorem dX6_goes_98 : decode cX6_goes 98 = .ok (.iastore, 1) := by decide +kernel
theorem dX6_goes_99 : decode cX6_goes 99 = .ok (.aload_n 0, 1) := by decide +kernel
theorem dX6_goes_100 : decode cX6_goes 100 = .ok (.iload_n 2, 1) := by decide +kernel
theorem dX6_goes_101 : decode cX6_goes 101 = .ok (.iconst 1, 1) := by decide +kernel
theorem dX6_goes_102 : decode cX6_goes 102 = .ok (.iadd, 1) := by decide +kernel
theorem dX6_goes_103 : decode cX6_goes 103 = .ok (.iload 5, 2) := by decide +kernel
theorem dX6_goes_105 : decode cX6_goes 105 = .ok (.ifCond .eq 7, 3) := by decide +kernel
theorem dX6_goes_108 : decode cX6_goes 108 = .ok (.iconst 0, 1) := by decide +kernel
theorem dX6_goes_109 : decode cX6_goes 109 = .ok (.goto 8, 3) := by decide +kernel
theorem dX6_goes_112 : decode cX6_goes 112 = .ok (.aload_n 0, 1) := by decide +kernel
theorem dX6_goes_113 : decode cX6_goes 113 = .ok (.iload_n 2, 1) := by decide +kernel
theorem dX6_goes_114 : decode cX6_goes 114 = .ok (.iconst 1, 1) := by decide +kernel
theorem dX6_goes_115 : decode cX6_goes 115 = .ok (.iadd, 1) := by decide +kernel
theorem dX6_goes_116 : decode cX6_goes 116 = .ok (.iaload, 1) := by decide +kernel
theorem dX6_goes_117 : decode cX6_goes 117 = .ok (.iastore, 1) := by decide +kernel
theorem dX6_goes_118 : decode cX6_goes 118 = .ok (.aload_n 0, 1) := by decide +kernel
theorem dX6_goes_119 : decode cX6_goes 119 = .ok (.iload_n 2, 1) := by decide +kernel
theorem dX6_goes_120 : decode cX6_goes 120 = .ok (.iconst 3, 1) := by decide +kernel
theorem dX6_goes_121 : decode cX6_goes 121 = .ok (.iadd, 1) := by decide +kernel
theorem dX6_goes_122 : decode cX6_goes 122 = .ok (.aload_n 0, 1) := by decide +kernel
theorem dX6_goes_123 : decode cX6_goes 123 = .ok (.iload_n 2, 1) := by decide +kernel
theorem dX6_goes_124 : decode cX6_goes 124 = .ok (.iconst 1, 1) := by decide +kernel
theorem dX6_goes_125 : decode cX6_goes 125 = .ok (.iadd, 1) := by decide +kernel
theorem dX6_goes_126 : decode cX6_goes 126 = .ok (.iaload, 1) := by decide +kernel
theorem dX6_goes_127 : decode cX6_goes 127 = .ok (.ifCond .ne 7, 3) := by decide +kernel
theorem dX6_goes_130 : decode cX6_goes 130 = .ok (.iconst 1, 1) := by decide +kernel
theorem dX6_goes_131 : decode cX6_goes 131 = .ok (.goto 4, 3) := by decide +kernel
theorem dX6_goes_134 : decode cX6_goes 134 = .ok (.iconst 0, 1) := by decide +kernel
theorem dX6_goes_135 : decode cX6_goes 135 = .ok (.iastore, 1) := by decide +kernel
theorem dX6_goes_136 : decode cX6_goes 136 = .ok (.return_, 1) := by decide +kernel
theorem dX6_passes_0 : decode cX6_passes 0 = .ok (.iconst 0, 1) := by decide +kernel
theorem dX6_passes_1 : decode cX6_passes 1 = .ok (.istore_n 1, 1) := by decide +kernel
theorem dX6_passes_2 : decode cX6_passes 2 = .ok (.iload_n 1, 1) := by decide +kernel
theorem dX6_passes_3 : decode cX6_passes 3 = .ok (.aload_n 0, 1) := by decide +kernel
theorem dX6_passes_4 : decode cX6_passes 4 = .ok (.iconst 3, 1) := by decide +kernel
theorem dX6_passes_5 : decode cX6_passes 5 = .ok (.iaload, 1) := by decide +kernel
theorem dX6_passes_6 : decode cX6_passes 6 = .ok (.if_icmp .ge 27, 3) := by decide +kernel
theorem dX6_passes_9 : decode cX6_passes 9 = .ok (.aload_n 0, 1) := by decide +kernel
theorem dX6_passes_10 : decode cX6_passes 10 = .ok (.bipush 17, 2) := by decide +kernel
theorem dX6_passes_12 : decode cX6_passes 12 = .ok (.iconst 4, 1) := by decide +kernel
theorem dX6_passes_13 : decode cX6_passes 13 = .ok (.iload_n 1, 1) := by decide +kernel
theorem dX6_passes_14 : decode cX6_passes 14 = .ok (.imul, 1) := by decide +kernel
theorem dX6_passes_15 : decode cX6_passes 15 = .ok (.iadd, 1) := by decide +kernel
theorem dX6_passes_16 : decode cX6_passes 16 = .ok (.iconst 3, 1) := by decide +kernel
theorem dX6_passes_17 : decode cX6_passes 17 = .ok (.iadd, 1) := by decide +kernel
theorem dX6_passes_18 : decode cX6_passes 18 = .ok (.iaload, 1) := by decide +kernel
theorem dX6_passes_19 : decode cX6_passes 19 = .ok (.ifCond .ne 8, 3) := by decide +kernel
theorem dX6_passes_22 : decode cX6_passes 22 = .ok (.aload_n 0, 1) := by decide +kernel
theorem dX6_passes_23 : decode cX6_passes 23 = .ok (.iload_n 1, 1) := by decide +kernel
theorem dX6_passes_24 : decode cX6_passes 24 = .ok (.invokestatic 157, 3) := by decide +kernel
theorem dX6_passes_27 : decode cX6_passes 27 = .ok (.iinc 1 1, 3) := by decide +kernel
theorem dX6_passes_30 : decode cX6_passes 30 = .ok (.goto (-28), 3) := by decide +kernel
theorem dX6_passes_33 : decode cX6_passes 33 = .ok (.aload_n 0, 1) := by decide +kernel
theorem dX6_passes_34 : decode cX6_passes 34 = .ok (.iconst 4, 1) := by decide +kernel
theorem dX6_passes_35 : decode cX6_passes 35 = .ok (.dup2, 1) := by decide +kernel
theorem dX6_passes_36 : decode cX6_passes 36 = .ok (.iaload, 1) := by decide +kernel
theorem dX6_passes_37 : decode cX6_passes 37 = .ok (.iconst 1, 1) := by decide +kernel
theorem dX6_passes_38 : decode cX6_passes 38 = .ok (.iadd, 1) := by decide +kernel
theorem dX6_passes_39 : decode cX6_passes 39 = .ok (.iastore, 1) := by decide +kernel
theorem dX6_passes_40 : decode cX6_passes 40 = .ok (.return_, 1) := by decide +kernel
theorem dX6_goneOf_0 : decode cX6_goneOf 0 = .ok (.iconst 0, 1) := by decide +kernel
theorem dX6_goneOf_1 : decode cX6_goneOf 1 = .ok (.istore_n 1, 1) := by decide +kernel
theorem dX6_goneOf_2 : decode cX6_goneOf 2 = .ok (.iconst 0, 1) := by decide +kernel
theorem dX6_goneOf_3 : decode cX6_goneOf 3 = .ok (.istore_n 2, 1) := by decide +kernel
theorem dX6_goneOf_4 : decode cX6_goneOf 4 = .ok (.iload_n 2, 1) := by decide +kernel
theorem dX6_goneOf_5 : decode cX6_goneOf 5 = .ok (.aload_n 0, 1) := by decide +kernel
theorem dX6_goneOf_6 : decode cX6_goneOf 6 = .ok (.iconst 3, 1) := by decide +kernel
theorem dX6_goneOf_7 : decode cX6_goneOf 7 = .ok (.iaload, 1) := by decide +kernel
theorem dX6_goneOf_8 : decode cX6_goneOf 8 = .ok (.if_icmp .ge 24, 3) := by decide +kernel
theorem dX6_goneOf_11 : decode cX6_goneOf 11 = .ok (.iload_n 1, 1) := by decide +kernel
theorem dX6_goneOf_12 : decode cX6_goneOf 12 = .ok (.aload_n 0, 1) := by decide +kernel
theorem dX6_goneOf_13 : decode cX6_goneOf 13 = .ok (.bipush 17, 2) := by decide +kernel
theorem dX6_goneOf_15 : decode cX6_goneOf 15 = .ok (.iconst 4, 1) := by decide +kernel
theorem dX6_goneOf_16 : decode cX6_goneOf 16 = .ok (.iload_n 2, 1) := by decide +kernel
theorem dX6_goneOf_17 : decode cX6_goneOf 17 = .ok (.imul, 1) := by decide +kernel
theorem dX6_goneOf_18 : decode cX6_goneOf 18 = .ok (.iadd, 1) := by decide +kernel
theorem dX6_goneOf_19 : decode cX6_goneOf 19 = .ok (.iconst 3, 1) := by decide +kernel
theorem dX6_goneOf_20 : decode cX6_goneOf 20 = .ok (.iadd, 1) := by decide +kernel
theorem dX6_goneOf_21 : decode cX6_goneOf 21 = .ok (.iaload, 1) := by decide +kernel
theorem dX6_goneOf_22 : decode cX6_goneOf 22 = .ok (.iload_n 2, 1) := by decide +kernel
theorem dX6_goneOf_23 : decode cX6_goneOf 23 = .ok (.ishl, 1) := by decide +kernel
theorem dX6_goneOf_24 : decode cX6_goneOf 24 = .ok (.ior, 1) := by decide +kernel
theorem dX6_goneOf_25 : decode cX6_goneOf 25 = .ok (.istore_n 1, 1) := by decide +kernel
theorem dX6_goneOf_26 : decode cX6_goneOf 26 = .ok (.iinc 2 1, 3) := by decide +kernel
theorem dX6_goneOf_29 : decode cX6_goneOf 29 = .ok (.goto (-25), 3) := by decide +kernel
theorem dX6_goneOf_32 : decode cX6_goneOf 32 = .ok (.iload_n 1, 1) := by decide +kernel
theorem dX6_goneOf_33 : decode cX6_goneOf 33 = .ok (.ireturn, 1) := by decide +kernel
theorem dX6_sizes_0 : decode cX6_sizes 0 = .ok (.iconst 0, 1) := by decide +kernel
theorem dX6_sizes_1 : decode cX6_sizes 1 = .ok (.istore_n 1, 1) := by decide +kernel
theorem dX6_sizes_2 : decode cX6_sizes 2 = .ok (.iconst 0, 1) := by decide +kernel
theorem dX6_sizes_3 : decode cX6_sizes 3 = .ok (.istore_n 2, 1) := by decide +kernel
theorem dX6_sizes_4 : decode cX6_sizes 4 = .ok (.iload_n 2, 1) := by decide +kernel
theorem dX6_sizes_5 : decode cX6_sizes 5 = .ok (.aload_n 0, 1) := by decide +kernel
theorem dX6_sizes_6 : decode cX6_sizes 6 = .ok (.iconst 3, 1) := by decide +kernel
theorem dX6_sizes_7 : decode cX6_sizes 7 = .ok (.iaload, 1) := by decide +kernel
theorem dX6_sizes_8 : decode cX6_sizes 8 = .ok (.if_icmp .ge 22, 3) := by decide +kernel
theorem dX6_sizes_11 : decode cX6_sizes 11 = .ok (.iload_n 1, 1) := by decide +kernel
theorem dX6_sizes_12 : decode cX6_sizes 12 = .ok (.aload_n 0, 1) := by decide +kernel
theorem dX6_sizes_13 : decode cX6_sizes 13 = .ok (.bipush 17, 2) := by decide +kernel
theorem dX6_sizes_15 : decode cX6_sizes 15 = .ok (.iconst 4, 1) := by decide +kernel
theorem dX6_sizes_16 : decode cX6_sizes 16 = .ok (.iload_n 2, 1) := by decide +kernel
theorem dX6_sizes_17 : decode cX6_sizes 17 = .ok (.imul, 1) := by decide +kernel
theorem dX6_sizes_18 : decode cX6_sizes 18 = .ok (.iadd, 1) := by decide +kernel
theorem dX6_sizes_19 : decode cX6_sizes 19 = .ok (.iconst 1, 1) := by decide +kernel
theorem dX6_sizes_20 : decode cX6_sizes 20 = .ok (.iadd, 1) := by decide +kernel
theorem dX6_sizes_21 : decode cX6_sizes 21 = .ok (.iaload, 1) := by decide +kernel
theorem dX6_sizes_22 : decode cX6_sizes 22 = .ok (.iadd, 1) := by decide +kernel
theorem dX6_sizes_23 : decode cX6_sizes 23 = .ok (.istore_n 1, 1) := by decide +kernel
theorem dX6_sizes_24 : decode cX6_sizes 24 = .ok (.iinc 2 1, 3) := by decide +kernel
theorem dX6_sizes_27 : decode cX6_sizes 27 = .ok (.goto (-23), 3) := by decide +kernel
theorem dX6_sizes_30 : decode cX6_sizes 30 = .ok (.iload_n 1, 1) := by decide +kernel
theorem dX6_sizes_31 : decode cX6_sizes 31 = .ok (.ireturn, 1) := by decide +kernel
theorem dX6_all_0 : decode cX6_all 0 = .ok (.iconst 1, 1) := by decide +kernel
theorem dX6_all_1 : decode cX6_all 1 = .ok (.aload_n 0, 1) := by decide +kernel
theorem dX6_all_2 : decode cX6_all 2 = .ok (.iconst 3, 1) := by decide +kernel
theorem dX6_all_3 : decode cX6_all 3 = .ok (.iaload, 1) := by decide +kernel
theorem dX6_all_4 : decode cX6_all 4 = .ok (.ishl, 1) := by decide +kernel
theorem dX6_all_5 : decode cX6_all 5 = .ok (.iconst 1, 1) := by decide +kernel
theorem dX6_all_6 : decode cX6_all 6 = .ok (.isub, 1) := by decide +kernel
theorem dX6_all_7 : decode cX6_all 7 = .ok (.ireturn, 1) := by decide +kernel
theorem dX6_whereIs_0 : decode cX6_whereIs 0 = .ok (.aload_n 0, 1) := by decide +kernel
theorem dX6_whereIs_1 : decode cX6_whereIs 1 = .ok (.bipush 17, 2) := by decide +kernel
theorem dX6_whereIs_3 : decode cX6_whereIs 3 = .ok (.iconst 4, 1) := by decide +kernel
theorem dX6_whereIs_4 : decode cX6_whereIs 4 = .ok (.iload_n 1, 1) := by decide +kernel
theorem dX6_whereIs_5 : decode cX6_whereIs 5 = .ok (.imul, 1) := by decide +kernel
theorem dX6_whereIs_6 : decode cX6_whereIs 6 = .ok (.iadd, 1) := by decide +kernel
theorem dX6_whereIs_7 : decode cX6_whereIs 7 = .ok (.iconst 3, 1) := by decide +kernel
theorem dX6_whereIs_8 : decode cX6_whereIs 8 = .ok (.iadd, 1) := by decide +kernel
theorem dX6_whereIs_9 : decode cX6_whereIs 9 = .ok (.iaload, 1) := by decide +kernel
theorem dX6_whereIs_10 : decode cX6_whereIs 10 = .ok (.iconst 1, 1) := by decide +kernel
theorem dX6_whereIs_11 : decode cX6_whereIs 11 = .ok (.if_icmp .ne 8, 3) := by decide +kernel
theorem dX6_whereIs_14 : decode cX6_whereIs 14 = .ok (.ldc 47, 2) := by decide +kernel
theorem dX6_whereIs_16 : decode cX6_whereIs 16 = .ok (.goto 13, 3) := by decide +kernel
theorem dX6_whereIs_19 : decode cX6_whereIs 19 = .ok (.aload_n 0, 1) := by decide +kernel
theorem dX6_whereIs_20 : decode cX6_whereIs 20 = .ok (.bipush 17, 2) := by decide +kernel
theorem dX6_whereIs_22 : decode cX6_whereIs 22 = .ok (.iconst 4, 1) := by decide +kernel
theorem dX6_whereIs_23 : decode cX6_whereIs 23 = .ok (.iload_n 1, 1) := by decide +kernel
theorem dX6_whereIs_24 : decode cX6_whereIs 24 = .ok (.imul, 1) := by decide +kernel
theorem dX6_whereIs_25 : decode cX6_whereIs 25 = .ok (.iadd, 1) := by decide +kernel
theorem dX6_whereIs_26 : decode cX6_whereIs 26 = .ok (.iconst 2, 1) := by decide +kernel
theorem dX6_whereIs_27 : decode cX6_whereIs 27 = .ok (.iadd, 1) := by decide +kernel
theorem dX6_whereIs_28 : decode cX6_whereIs 28 = .ok (.iaload, 1) := by decide +kernel
theorem dX6_whereIs_29 : decode cX6_whereIs 29 = .ok (.ireturn, 1) := by decide +kernel
theorem dX6_says_0 : decode cX6_says 0 = .ok (.aload_n 0, 1) := by decide +kernel
theorem dX6_says_1 : decode cX6_says 1 = .ok (.bipush 17, 2) := by decide +kernel
theorem dX6_says_3 : decode cX6_says 3 = .ok (.iconst 4, 1) := by decide +kernel
theorem dX6_says_4 : decode cX6_says 4 = .ok (.iload_n 1, 1) := by decide +kernel
theorem dX6_says_5 : decode cX6_says 5 = .ok (.imul, 1) := by decide +kernel
theorem dX6_says_6 : decode cX6_says 6 = .ok (.iadd, 1) := by decide +kernel
theorem dX6_says_7 : decode cX6_says 7 = .ok (.iconst 1, 1) := by decide +kernel
theorem dX6_says_8 : decode cX6_says 8 = .ok (.iadd, 1) := by decide +kernel
theorem dX6_says_9 : decode cX6_says 9 = .ok (.iload_n 2, 1) := by decide +kernel
theorem dX6_says_10 : decode cX6_says 10 = .ok (.iastore, 1) := by decide +kernel
theorem dX6_says_11 : decode cX6_says 11 = .ok (.aload_n 0, 1) := by decide +kernel
theorem dX6_says_12 : decode cX6_says 12 = .ok (.bipush 17, 2) := by decide +kernel
theorem dX6_says_14 : decode cX6_says 14 = .ok (.iconst 4, 1) := by decide +kernel
theorem dX6_says_15 : decode cX6_says 15 = .ok (.iload_n 1, 1) := by decide +kernel
theorem dX6_says_16 : decode cX6_says 16 = .ok (.imul, 1) := by decide +kernel
theorem dX6_says_17 : decode cX6_says 17 = .ok (.iadd, 1) := by decide +kernel
theorem dX6_says_18 : decode cX6_says 18 = .ok (.iconst 2, 1) := by decide +kernel
theorem dX6_says_19 : decode cX6_says 19 = .ok (.iadd, 1) := by decide +kernel
theorem dX6_says_20 : decode cX6_says 20 = .ok (.iload_n 3, 1) := by decide +kernel
theorem dX6_says_21 : decode cX6_says 21 = .ok (.iastore, 1) := by decide +kernel
theorem dX6_says_22 : decode cX6_says 22 = .ok (.aload_n 0, 1) := by decide +kernel
theorem dX6_says_23 : decode cX6_says 23 = .ok (.bipush 17, 2) := by decide +kernel
theorem dX6_says_25 : decode cX6_says 25 = .ok (.iconst 4, 1) := by decide +kernel
theorem dX6_says_26 : decode cX6_says 26 = .ok (.iload_n 1, 1) := by decide +kernel
theorem dX6_says_27 : decode cX6_says 27 = .ok (.imul, 1) := by decide +kernel
theorem dX6_says_28 : decode cX6_says 28 = .ok (.iadd, 1) := by decide +kernel
theorem dX6_says_29 : decode cX6_says 29 = .ok (.iconst 3, 1) := by decide +kernel
theorem dX6_says_30 : decode cX6_says 30 = .ok (.iadd, 1) := by decide +kernel
theorem dX6_says_31 : decode cX6_says 31 = .ok (.iconst 0, 1) := by decide +kernel
theorem dX6_says_32 : decode cX6_says 32 = .ok (.iastore, 1) := by decide +kernel
theorem dX6_says_33 : decode cX6_says 33 = .ok (.return_, 1) := by decide +kernel
theorem dX6_notes_0 : decode cX6_notes 0 = .ok (.aload_n 0, 1) := by decide +kernel
theorem dX6_notes_1 : decode cX6_notes 1 = .ok (.getfield 139, 3) := by decide +kernel
theorem dX6_notes_4 : decode cX6_notes 4 = .ok (.bipush 24, 2) := by decide +kernel
theorem dX6_notes_6 : decode cX6_notes 6 = .ok (.if_icmp .ne 43, 3) := by decide +kernel
theorem dX6_notes_9 : decode cX6_notes 9 = .ok (.iconst 0, 1) := by decide +kernel
theorem dX6_notes_10 : decode cX6_notes 10 = .ok (.istore_n 1, 1) := by decide +kernel
theorem dX6_notes_11 : decode cX6_notes 11 = .ok (.iload_n 1, 1) := by decide +kernel
theorem dX6_notes_12 : decode cX6_notes 12 = .ok (.sipush 1035, 3) := by decide +kernel
theorem dX6_notes_15 : decode cX6_notes 15 = .ok (.if_icmp .ge 24, 3) := by decide +kernel
theorem dX6_notes_18 : decode cX6_notes 18 = .ok (.aload_n 0, 1) := by decide +kernel
theorem dX6_notes_19 : decode cX6_notes 19 = .ok (.getfield 34, 3) := by decide +kernel
theorem dX6_notes_22 : decode cX6_notes 22 = .ok (.iload_n 1, 1) := by decide +kernel
theorem dX6_notes_23 : decode cX6_notes 23 = .ok (.aload_n 0, 1) := by decide +kernel
theorem dX6_notes_24 : decode cX6_notes 24 = .ok (.getfield 34, 3) := by decide +kernel
theorem dX6_notes_27 : decode cX6_notes 27 = .ok (.iload_n 1, 1) := by decide +kernel
theorem dX6_notes_28 : decode cX6_notes 28 = .ok (.bipush 45, 2) := by decide +kernel
theorem dX6_notes_30 : decode cX6_notes 30 = .ok (.iadd, 1) := by decide +kernel
theorem dX6_notes_31 : decode cX6_notes 31 = .ok (.iaload, 1) := by decide +kernel
theorem dX6_notes_32 : decode cX6_notes 32 = .ok (.iastore, 1) := by decide +kernel
theorem dX6_notes_33 : decode cX6_notes 33 = .ok (.iinc 1 1, 3) := by decide +kernel
theorem dX6_notes_36 : decode cX6_notes 36 = .ok (.goto (-25), 3) := by decide +kernel
theorem dX6_notes_39 : decode cX6_notes 39 = .ok (.aload_n 0, 1) := by decide +kernel
theorem dX6_notes_40 : decode cX6_notes 40 = .ok (.dup, 1) := by decide +kernel
theorem dX6_notes_41 : decode cX6_notes 41 = .ok (.getfield 139, 3) := by decide +kernel
theorem dX6_notes_44 : decode cX6_notes 44 = .ok (.iconst 1, 1) := by decide +kernel
theorem dX6_notes_45 : decode cX6_notes 45 = .ok (.isub, 1) := by decide +kernel
theorem dX6_notes_46 : decode cX6_notes 46 = .ok (.putfield 139, 3) := by decide +kernel
theorem dX6_notes_49 : decode cX6_notes 49 = .ok (.aload_n 0, 1) := by decide +kernel
theorem dX6_notes_50 : decode cX6_notes 50 = .ok (.getfield 25, 3) := by decide +kernel
theorem dX6_notes_53 : decode cX6_notes 53 = .ok (.iconst 0, 1) := by decide +kernel
theorem dX6_notes_54 : decode cX6_notes 54 = .ok (.aload_n 0, 1) := by decide +kernel
theorem dX6_notes_55 : decode cX6_notes 55 = .ok (.getfield 34, 3) := by decide +kernel
theorem dX6_notes_58 : decode cX6_notes 58 = .ok (.bipush 45, 2) := by decide +kernel
theorem dX6_notes_60 : decode cX6_notes 60 = .ok (.aload_n 0, 1) := by decide +kernel
theorem dX6_notes_61 : decode cX6_notes 61 = .ok (.getfield 139, 3) := by decide +kernel
theorem dX6_notes_64 : decode cX6_notes 64 = .ok (.imul, 1) := by decide +kernel
theorem dX6_notes_65 : decode cX6_notes 65 = .ok (.invokestatic 135, 3) := by decide +kernel
theorem dX6_notes_68 : decode cX6_notes 68 = .ok (.aload_n 0, 1) := by decide +kernel
theorem dX6_notes_69 : decode cX6_notes 69 = .ok (.dup, 1) := by decide +kernel
theorem dX6_notes_70 : decode cX6_notes 70 = .ok (.getfield 139, 3) := by decide +kernel
theorem dX6_notes_73 : decode cX6_notes 73 = .ok (.iconst 1, 1) := by decide +kernel
theorem dX6_notes_74 : decode cX6_notes 74 = .ok (.iadd, 1) := by decide +kernel
theorem dX6_notes_75 : decode cX6_notes 75 = .ok (.putfield 139, 3) := by decide +kernel
theorem dX6_notes_78 : decode cX6_notes 78 = .ok (.return_, 1) := by decide +kernel
theorem dX6_minutes_0 : decode cX6_minutes 0 = .ok (.aload_n 0, 1) := by decide +kernel
theorem dX6_minutes_1 : decode cX6_minutes 1 = .ok (.invokevirtual 161, 3) := by decide +kernel
theorem dX6_minutes_4 : decode cX6_minutes 4 = .ok (.ifCond .ne 6, 3) := by decide +kernel
theorem dX6_minutes_7 : decode cX6_minutes 7 = .ok (.ldc 164, 2) := by decide +kernel
theorem dX6_minutes_9 : decode cX6_minutes 9 = .ok (.ireturn, 1) := by decide +kernel
theorem dX6_minutes_10 : decode cX6_minutes 10 = .ok (.iload_n 1, 1) := by decide +kernel
theorem dX6_minutes_11 : decode cX6_minutes 11 = .ok (.iconst 1, 1) := by decide +kernel
theorem dX6_minutes_12 : decode cX6_minutes 12 = .ok (.bipush 24, 2) := by decide +kernel
theorem dX6_minutes_14 : decode cX6_minutes 14 = .ok (.invokestatic 53, 3) := by decide +kernel
theorem dX6_minutes_17 : decode cX6_minutes 17 = .ok (.ifCond .ne 6, 3) := by decide +kernel
theorem dX6_minutes_20 : decode cX6_minutes 20 = .ok (.ldc 61, 2) := by decide +kernel
theorem dX6_minutes_22 : decode cX6_minutes 22 = .ok (.ireturn, 1) := by decide +kernel
theorem dX6_minutes_23 : decode cX6_minutes 23 = .ok (.aload_n 0, 1) := by decide +kernel
theorem dX6_minutes_24 : decode cX6_minutes 24 = .ok (.getfield 25, 3) := by decide +kernel
theorem dX6_minutes_27 : decode cX6_minutes 27 = .ok (.iconst 4, 1) := by decide +kernel
theorem dX6_minutes_28 : decode cX6_minutes 28 = .ok (.iaload, 1) := by decide +kernel
theorem dX6_minutes_29 : decode cX6_minutes 29 = .ok (.iload_n 1, 1) := by decide +kernel
theorem dX6_minutes_30 : decode cX6_minutes 30 = .ok (.iadd, 1) := by decide +kernel
theorem dX6_minutes_31 : decode cX6_minutes 31 = .ok (.sipush 9999, 3) := by decide +kernel
theorem dX6_minutes_34 : decode cX6_minutes 34 = .ok (.if_icmp .le 6, 3) := by decide +kernel
theorem dX6_minutes_37 : decode cX6_minutes 37 = .ok (.ldc 82, 2) := by decide +kernel
theorem dX6_minutes_39 : decode cX6_minutes 39 = .ok (.ireturn, 1) := by decide +kernel
theorem dX6_minutes_40 : decode cX6_minutes 40 = .ok (.iconst 0, 1) := by decide +kernel
theorem dX6_minutes_41 : decode cX6_minutes 41 = .ok (.istore_n 2, 1) := by decide +kernel
theorem dX6_minutes_42 : decode cX6_minutes 42 = .ok (.iload_n 2, 1) := by decide +kernel
theorem dX6_minutes_43 : decode cX6_minutes 43 = .ok (.iload_n 1, 1) := by decide +kernel
theorem dX6_minutes_44 : decode cX6_minutes 44 = .ok (.if_icmp .ge 20, 3) := by decide +kernel
theorem dX6_minutes_47 : decode cX6_minutes 47 = .ok (.aload_n 0, 1) := by decide +kernel
theorem dX6_minutes_48 : decode cX6_minutes 48 = .ok (.invokevirtual 165, 3) := by decide +kernel
theorem dX6_minutes_51 : decode cX6_minutes 51 = .ok (.aload_n 0, 1) := by decide +kernel
theorem dX6_minutes_52 : decode cX6_minutes 52 = .ok (.getfield 25, 3) := by decide +kernel
theorem dX6_minutes_55 : decode cX6_minutes 55 = .ok (.invokestatic 168, 3) := by decide +kernel
theorem dX6_minutes_58 : decode cX6_minutes 58 = .ok (.iinc 2 1, 3) := by decide +kernel
theorem dX6_minutes_61 : decode cX6_minutes 61 = .ok (.goto (-19), 3) := by decide +kernel
theorem dX6_minutes_64 : decode cX6_minutes 64 = .ok (.aload_n 0, 1) := by decide +kernel
theorem dX6_minutes_65 : decode cX6_minutes 65 = .ok (.getfield 25, 3) := by decide +kernel
theorem dX6_minutes_68 : decode cX6_minutes 68 = .ok (.invokestatic 172, 3) := by decide +kernel
theorem dX6_minutes_71 : decode cX6_minutes 71 = .ok (.ireturn, 1) := by decide +kernel
theorem dX6_say_0 : decode cX6_say 0 = .ok (.aload_n 0, 1) := by decide +kernel
theorem dX6_say_1 : decode cX6_say 1 = .ok (.iload_n 1, 1) := by decide +kernel
theorem dX6_say_2 : decode cX6_say 2 = .ok (.invokevirtual 176, 3) := by decide +kernel
theorem dX6_say_5 : decode cX6_say 5 = .ok (.ifCond .eq 21, 3) := by decide +kernel
theorem dX6_say_8 : decode cX6_say 8 = .ok (.iload_n 2, 1) := by decide +kernel
theorem dX6_say_9 : decode cX6_say 9 = .ok (.iconst 1, 1) := by decide +kernel
theorem dX6_say_10 : decode cX6_say 10 = .ok (.bipush 60, 2) := by decide +kernel
theorem dX6_say_12 : decode cX6_say 12 = .ok (.invokestatic 53, 3) := by decide +kernel
theorem dX6_say_15 : decode cX6_say 15 = .ok (.ifCond .eq 11, 3) := by decide +kernel
theorem dX6_say_18 : decode cX6_say 18 = .ok (.aload_n 0, 1) := by decide +kernel
theorem dX6_say_19 : decode cX6_say 19 = .ok (.iload_n 3, 1) := by decide +kernel
theorem dX6_say_20 : decode cX6_say 20 = .ok (.invokevirtual 179, 3) := by decide +kernel
theorem dX6_say_23 : decode cX6_say 23 = .ok (.ifCond .ne 6, 3) := by decide +kernel
theorem dX6_say_26 : decode cX6_say 26 = .ok (.ldc 61, 2) := by decide +kernel
theorem dX6_say_28 : decode cX6_say 28 = .ok (.ireturn, 1) := by decide +kernel
theorem dX6_say_29 : decode cX6_say 29 = .ok (.aload_n 0, 1) := by decide +kernel
theorem dX6_say_30 : decode cX6_say 30 = .ok (.invokevirtual 165, 3) := by decide +kernel
theorem dX6_say_33 : decode cX6_say 33 = .ok (.aload_n 0, 1) := by decide +kernel
theorem dX6_say_34 : decode cX6_say 34 = .ok (.getfield 25, 3) := by decide +kernel
theorem dX6_say_37 : decode cX6_say 37 = .ok (.bipush 17, 2) := by decide +kernel
theorem dX6_say_39 : decode cX6_say 39 = .ok (.iconst 4, 1) := by decide +kernel
theorem dX6_say_40 : decode cX6_say 40 = .ok (.iload_n 1, 1) := by decide +kernel
theorem dX6_say_41 : decode cX6_say 41 = .ok (.imul, 1) := by decide +kernel
theorem dX6_say_42 : decode cX6_say 42 = .ok (.iadd, 1) := by decide +kernel
theorem dX6_say_43 : decode cX6_say 43 = .ok (.iconst 1, 1) := by decide +kernel
theorem dX6_say_44 : decode cX6_say 44 = .ok (.iadd, 1) := by decide +kernel
theorem dX6_say_45 : decode cX6_say 45 = .ok (.iaload, 1) := by decide +kernel
theorem dX6_say_46 : decode cX6_say 46 = .ok (.istore 4, 2) := by decide +kernel
theorem dX6_say_48 : decode cX6_say 48 = .ok (.aload_n 0, 1) := by decide +kernel
theorem dX6_say_49 : decode cX6_say 49 = .ok (.getfield 25, 3) := by decide +kernel
theorem dX6_say_52 : decode cX6_say 52 = .ok (.iload_n 1, 1) := by decide +kernel
theorem dX6_say_53 : decode cX6_say 53 = .ok (.iload_n 2, 1) := by decide +kernel
theorem dX6_say_54 : decode cX6_say 54 = .ok (.iload_n 3, 1) := by decide +kernel
theorem dX6_say_55 : decode cX6_say 55 = .ok (.invokestatic 182, 3) := by decide +kernel
theorem dX6_say_58 : decode cX6_say 58 = .ok (.iload 4, 2) := by decide +kernel
theorem dX6_say_60 : decode cX6_say 60 = .ok (.ireturn, 1) := by decide +kernel
theorem dX6_speed_0 : decode cX6_speed 0 = .ok (.aload_n 0, 1) := by decide +kernel
theorem dX6_speed_1 : decode cX6_speed 1 = .ok (.iload_n 1, 1) := by decide +kernel
theorem dX6_speed_2 : decode cX6_speed 2 = .ok (.invokevirtual 179, 3) := by decide +kernel
theorem dX6_speed_5 : decode cX6_speed 5 = .ok (.ifCond .eq 12, 3) := by decide +kernel
theorem dX6_speed_8 : decode cX6_speed 8 = .ok (.iload_n 2, 1) := by decide +kernel
theorem dX6_speed_9 : decode cX6_speed 9 = .ok (.iconst 0, 1) := by decide +kernel
theorem dX6_speed_10 : decode cX6_speed 10 = .ok (.iconst 3, 1) := by decide +kernel
theorem dX6_speed_11 : decode cX6_speed 11 = .ok (.invokestatic 53, 3) := by decide +kernel
theorem dX6_speed_14 : decode cX6_speed 14 = .ok (.ifCond .ne 6, 3) := by decide +kernel
theorem dX6_speed_17 : decode cX6_speed 17 = .ok (.ldc 61, 2) := by decide +kernel
theorem dX6_speed_19 : decode cX6_speed 19 = .ok (.ireturn, 1) := by decide +kernel
theorem dX6_speed_20 : decode cX6_speed 20 = .ok (.aload_n 0, 1) := by decide +kernel
theorem dX6_speed_21 : decode cX6_speed 21 = .ok (.invokevirtual 165, 3) := by decide +kernel
theorem dX6_speed_24 : decode cX6_speed 24 = .ok (.aload_n 0, 1) := by decide +kernel
theorem dX6_speed_25 : decode cX6_speed 25 = .ok (.getfield 25, 3) := by decide +kernel
theorem dX6_speed_28 : decode cX6_speed 28 = .ok (.iconst 5, 1) := by decide +kernel
theorem dX6_speed_29 : decode cX6_speed 29 = .ok (.iload_n 1, 1) := by decide +kernel
theorem dX6_speed_30 : decode cX6_speed 30 = .ok (.iadd, 1) := by decide +kernel
theorem dX6_speed_31 : decode cX6_speed 31 = .ok (.iaload, 1) := by decide +kernel
theorem dX6_speed_32 : decode cX6_speed 32 = .ok (.istore_n 3, 1) := by decide +kernel
theorem dX6_speed_33 : decode cX6_speed 33 = .ok (.aload_n 0, 1) := by decide +kernel
theorem dX6_speed_34 : decode cX6_speed 34 = .ok (.getfield 25, 3) := by decide +kernel
theorem dX6_speed_37 : decode cX6_speed 37 = .ok (.iconst 5, 1) := by decide +kernel
theorem dX6_speed_38 : decode cX6_speed 38 = .ok (.iload_n 1, 1) := by decide +kernel
theorem dX6_speed_39 : decode cX6_speed 39 = .ok (.iadd, 1) := by decide +kernel
theorem dX6_speed_40 : decode cX6_speed 40 = .ok (.iload_n 2, 1) := by decide +kernel
theorem dX6_speed_41 : decode cX6_speed 41 = .ok (.iastore, 1) := by decide +kernel
theorem dX6_speed_42 : decode cX6_speed 42 = .ok (.iload_n 3, 1) := by decide +kernel
theorem dX6_speed_43 : decode cX6_speed 43 = .ok (.ireturn, 1) := by decide +kernel
theorem dX6_rain_0 : decode cX6_rain 0 = .ok (.aload_n 0, 1) := by decide +kernel
theorem dX6_rain_1 : decode cX6_rain 1 = .ok (.invokevirtual 161, 3) := by decide +kernel
theorem dX6_rain_4 : decode cX6_rain 4 = .ok (.ifCond .ne 6, 3) := by decide +kernel
theorem dX6_rain_7 : decode cX6_rain 7 = .ok (.ldc 164, 2) := by decide +kernel
theorem dX6_rain_9 : decode cX6_rain 9 = .ok (.ireturn, 1) := by decide +kernel
theorem dX6_rain_10 : decode cX6_rain 10 = .ok (.iload_n 1, 1) := by decide +kernel
theorem dX6_rain_11 : decode cX6_rain 11 = .ok (.iconst 0, 1) := by decide +kernel
theorem dX6_rain_12 : decode cX6_rain 12 = .ok (.bipush 15, 2) := by decide +kernel
theorem dX6_rain_14 : decode cX6_rain 14 = .ok (.invokestatic 53, 3) := by decide +kernel
theorem dX6_rain_17 : decode cX6_rain 17 = .ok (.ifCond .ne 6, 3) := by decide +kernel
theorem dX6_rain_20 : decode cX6_rain 20 = .ok (.ldc 61, 2) := by decide +kernel
theorem dX6_rain_22 : decode cX6_rain 22 = .ok (.ireturn, 1) := by decide +kernel
theorem dX6_rain_23 : decode cX6_rain 23 = .ok (.aload_n 0, 1) := by decide +kernel
theorem dX6_rain_24 : decode cX6_rain 24 = .ok (.invokevirtual 165, 3) := by decide +kernel
theorem dX6_rain_27 : decode cX6_rain 27 = .ok (.aload_n 0, 1) := by decide +kernel
theorem dX6_rain_28 : decode cX6_rain 28 = .ok (.getfield 25, 3) := by decide +kernel
theorem dX6_rain_31 : decode cX6_rain 31 = .ok (.iconst 0, 1) := by decide +kernel
theorem dX6_rain_32 : decode cX6_rain 32 = .ok (.iaload, 1) := by decide +kernel
theorem dX6_rain_33 : decode cX6_rain 33 = .ok (.istore_n 2, 1) := by decide +kernel
theorem dX6_rain_34 : decode cX6_rain 34 = .ok (.aload_n 0, 1) := by decide +kernel
theorem dX6_rain_35 : decode cX6_rain 35 = .ok (.getfield 25, 3) := by decide +kernel
theorem dX6_rain_38 : decode cX6_rain 38 = .ok (.iconst 0, 1) := by decide +kernel
theorem dX6_rain_39 : decode cX6_rain 39 = .ok (.iload_n 1, 1) := by decide +kernel
theorem dX6_rain_40 : decode cX6_rain 40 = .ok (.iastore, 1) := by decide +kernel
theorem dX6_rain_41 : decode cX6_rain 41 = .ok (.iload_n 2, 1) := by decide +kernel
theorem dX6_rain_42 : decode cX6_rain 42 = .ok (.ireturn, 1) := by decide +kernel
theorem dX6_undo_0 : decode cX6_undo 0 = .ok (.aload_n 0, 1) := by decide +kernel
theorem dX6_undo_1 : decode cX6_undo 1 = .ok (.getfield 139, 3) := by decide +kernel
theorem dX6_undo_4 : decode cX6_undo 4 = .ok (.ifCond .ne 6, 3) := by decide +kernel
theorem dX6_undo_7 : decode cX6_undo 7 = .ok (.ldc 164, 2) := by decide +kernel
theorem dX6_undo_9 : decode cX6_undo 9 = .ok (.ireturn, 1) := by decide +kernel
theorem dX6_undo_10 : decode cX6_undo 10 = .ok (.aload_n 0, 1) := by decide +kernel
theorem dX6_undo_11 : decode cX6_undo 11 = .ok (.dup, 1) := by decide +kernel
theorem dX6_undo_12 : decode cX6_undo 12 = .ok (.getfield 139, 3) := by decide +kernel
theorem dX6_undo_15 : decode cX6_undo 15 = .ok (.iconst 1, 1) := by decide +kernel
theorem dX6_undo_16 : decode cX6_undo 16 = .ok (.isub, 1) := by decide +kernel
theorem dX6_undo_17 : decode cX6_undo 17 = .ok (.putfield 139, 3) := by decide +kernel
theorem dX6_undo_20 : decode cX6_undo 20 = .ok (.aload_n 0, 1) := by decide +kernel
theorem dX6_undo_21 : decode cX6_undo 21 = .ok (.getfield 34, 3) := by decide +kernel
theorem dX6_undo_24 : decode cX6_undo 24 = .ok (.bipush 45, 2) := by decide +kernel
theorem dX6_undo_26 : decode cX6_undo 26 = .ok (.aload_n 0, 1) := by decide +kernel
theorem dX6_undo_27 : decode cX6_undo 27 = .ok (.getfield 139, 3) := by decide +kernel
theorem dX6_undo_30 : decode cX6_undo 30 = .ok (.imul, 1) := by decide +kernel
theorem dX6_undo_31 : decode cX6_undo 31 = .ok (.aload_n 0, 1) := by decide +kernel
theorem dX6_undo_32 : decode cX6_undo 32 = .ok (.getfield 25, 3) := by decide +kernel
theorem dX6_undo_35 : decode cX6_undo 35 = .ok (.iconst 0, 1) := by decide +kernel
theorem dX6_undo_36 : decode cX6_undo 36 = .ok (.invokestatic 135, 3) := by decide +kernel
theorem dX6_undo_39 : decode cX6_undo 39 = .ok (.aload_n 0, 1) := by decide +kernel
theorem dX6_undo_40 : decode cX6_undo 40 = .ok (.getfield 139, 3) := by decide +kernel
theorem dX6_undo_43 : decode cX6_undo 43 = .ok (.ireturn, 1) := by decide +kernel
theorem dX6_word_0 : decode cX6_word 0 = .ok (.aload_n 0, 1) := by decide +kernel
theorem dX6_word_1 : decode cX6_word 1 = .ok (.iload_n 1, 1) := by decide +kernel
theorem dX6_word_2 : decode cX6_word 2 = .ok (.invokevirtual 176, 3) := by decide +kernel
theorem dX6_word_5 : decode cX6_word 5 = .ok (.ifCond .ne 6, 3) := by decide +kernel
theorem dX6_word_8 : decode cX6_word 8 = .ok (.ldc 61, 2) := by decide +kernel
theorem dX6_word_10 : decode cX6_word 10 = .ok (.ireturn, 1) := by decide +kernel
theorem dX6_word_11 : decode cX6_word 11 = .ok (.iload_n 2, 1) := by decide +kernel
theorem dX6_word_12 : decode cX6_word 12 = .ok (.tableswitch 83 0 3 #[32, 46, 55, 69], 32) := by decide +kernel
theorem dX6_word_44 : decode cX6_word 44 = .ok (.aload_n 0, 1) := by decide +kernel
theorem dX6_word_45 : decode cX6_word 45 = .ok (.getfield 25, 3) := by decide +kernel
theorem dX6_word_48 : decode cX6_word 48 = .ok (.bipush 17, 2) := by decide +kernel
theorem dX6_word_50 : decode cX6_word 50 = .ok (.iconst 4, 1) := by decide +kernel
theorem dX6_word_51 : decode cX6_word 51 = .ok (.iload_n 1, 1) := by decide +kernel
theorem dX6_word_52 : decode cX6_word 52 = .ok (.imul, 1) := by decide +kernel
theorem dX6_word_53 : decode cX6_word 53 = .ok (.iadd, 1) := by decide +kernel
theorem dX6_word_54 : decode cX6_word 54 = .ok (.iconst 1, 1) := by decide +kernel
theorem dX6_word_55 : decode cX6_word 55 = .ok (.iadd, 1) := by decide +kernel
theorem dX6_word_56 : decode cX6_word 56 = .ok (.iaload, 1) := by decide +kernel
theorem dX6_word_57 : decode cX6_word 57 = .ok (.ireturn, 1) := by decide +kernel
theorem dX6_word_58 : decode cX6_word 58 = .ok (.aload_n 0, 1) := by decide +kernel
theorem dX6_word_59 : decode cX6_word 59 = .ok (.getfield 25, 3) := by decide +kernel
theorem dX6_word_62 : decode cX6_word 62 = .ok (.iload_n 1, 1) := by decide +kernel
theorem dX6_word_63 : decode cX6_word 63 = .ok (.invokestatic 186, 3) := by decide +kernel
theorem dX6_word_66 : decode cX6_word 66 = .ok (.ireturn, 1) := by decide +kernel
theorem dX6_word_67 : decode cX6_word 67 = .ok (.aload_n 0, 1) := by decide +kernel
theorem dX6_word_68 : decode cX6_word 68 = .ok (.getfield 25, 3) := by decide +kernel
theorem dX6_word_71 : decode cX6_word 71 = .ok (.bipush 17, 2) := by decide +kernel
theorem dX6_word_73 : decode cX6_word 73 = .ok (.iconst 4, 1) := by decide +kernel
theorem dX6_word_74 : decode cX6_word 74 = .ok (.iload_n 1, 1) := by decide +kernel
theorem dX6_word_75 : decode cX6_word 75 = .ok (.imul, 1) := by decide +kernel
theorem dX6_word_76 : decode cX6_word 76 = .ok (.iadd, 1) := by decide +kernel
theorem dX6_word_77 : decode cX6_word 77 = .ok (.iconst 3, 1) := by decide +kernel
theorem dX6_word_78 : decode cX6_word 78 = .ok (.iadd, 1) := by decide +kernel
theorem dX6_word_79 : decode cX6_word 79 = .ok (.iaload, 1) := by decide +kernel
theorem dX6_word_80 : decode cX6_word 80 = .ok (.ireturn, 1) := by decide +kernel
theorem dX6_word_81 : decode cX6_word 81 = .ok (.aload_n 0, 1) := by decide +kernel
theorem dX6_word_82 : decode cX6_word 82 = .ok (.getfield 25, 3) := by decide +kernel
theorem dX6_word_85 : decode cX6_word 85 = .ok (.bipush 17, 2) := by decide +kernel
theorem dX6_word_87 : decode cX6_word 87 = .ok (.iconst 4, 1) := by decide +kernel
theorem dX6_word_88 : decode cX6_word 88 = .ok (.iload_n 1, 1) := by decide +kernel
theorem dX6_word_89 : decode cX6_word 89 = .ok (.imul, 1) := by decide +kernel
theorem dX6_word_90 : decode cX6_word 90 = .ok (.iadd, 1) := by decide +kernel
theorem dX6_word_91 : decode cX6_word 91 = .ok (.iconst 2, 1) := by decide +kernel
theorem dX6_word_92 : decode cX6_word 92 = .ok (.iadd, 1) := by decide +kernel
theorem dX6_word_93 : decode cX6_word 93 = .ok (.iaload, 1) := by decide +kernel
theorem dX6_word_94 : decode cX6_word 94 = .ok (.ireturn, 1) := by decide +kernel
theorem dX6_word_95 : decode cX6_word 95 = .ok (.ldc 61, 2) := by decide +kernel
theorem dX6_word_97 : decode cX6_word 97 = .ok (.ireturn, 1) := by decide +kernel
theorem dX6_wordsIn_0 : decode cX6_wordsIn 0 = .ok (.iconst 0, 1) := by decide +kernel
theorem dX6_wordsIn_1 : decode cX6_wordsIn 1 = .ok (.istore_n 2, 1) := by decide +kernel
theorem dX6_wordsIn_2 : decode cX6_wordsIn 2 = .ok (.iconst 0, 1) := by decide +kernel
theorem dX6_wordsIn_3 : decode cX6_wordsIn 3 = .ok (.istore_n 3, 1) := by decide +kernel
theorem dX6_wordsIn_4 : decode cX6_wordsIn 4 = .ok (.iload_n 3, 1) := by decide +kernel
theorem dX6_wordsIn_5 : decode cX6_wordsIn 5 = .ok (.aload_n 0, 1) := by decide +kernel
theorem dX6_wordsIn_6 : decode cX6_wordsIn 6 = .ok (.getfield 25, 3) := by decide +kernel
theorem dX6_wordsIn_9 : decode cX6_wordsIn 9 = .ok (.iconst 3, 1) := by decide +kernel
theorem dX6_wordsIn_10 : decode cX6_wordsIn 10 = .ok (.iaload, 1) := by decide +kernel
theorem dX6_wordsIn_11 : decode cX6_wordsIn 11 = .ok (.if_icmp .ge 31, 3) := by decide +kernel
theorem dX6_wordsIn_14 : decode cX6_wordsIn 14 = .ok (.iload_n 2, 1) := by decide +kernel
theorem dX6_wordsIn_15 : decode cX6_wordsIn 15 = .ok (.aload_n 0, 1) := by decide +kernel
theorem dX6_wordsIn_16 : decode cX6_wordsIn 16 = .ok (.getfield 25, 3) := by decide +kernel
theorem dX6_wordsIn_19 : decode cX6_wordsIn 19 = .ok (.iload_n 3, 1) := by decide +kernel
theorem dX6_wordsIn_20 : decode cX6_wordsIn 20 = .ok (.invokestatic 186, 3) := by decide +kernel
theorem dX6_wordsIn_23 : decode cX6_wordsIn 23 = .ok (.iload_n 1, 1) := by decide +kernel
theorem dX6_wordsIn_24 : decode cX6_wordsIn 24 = .ok (.if_icmp .ne 9, 3) := by decide +kernel
theorem dX6_wordsIn_27 : decode cX6_wordsIn 27 = .ok (.iconst 1, 1) := by decide +kernel
theorem dX6_wordsIn_28 : decode cX6_wordsIn 28 = .ok (.iload_n 3, 1) := by decide +kernel
theorem dX6_wordsIn_29 : decode cX6_wordsIn 29 = .ok (.ishl, 1) := by decide +kernel
theorem dX6_wordsIn_30 : decode cX6_wordsIn 30 = .ok (.goto 4, 3) := by decide +kernel
theorem dX6_wordsIn_33 : decode cX6_wordsIn 33 = .ok (.iconst 0, 1) := by decide +kernel
theorem dX6_wordsIn_34 : decode cX6_wordsIn 34 = .ok (.ior, 1) := by decide +kernel
theorem dX6_wordsIn_35 : decode cX6_wordsIn 35 = .ok (.istore_n 2, 1) := by decide +kernel
theorem dX6_wordsIn_36 : decode cX6_wordsIn 36 = .ok (.iinc 3 1, 3) := by decide +kernel
theorem dX6_wordsIn_39 : decode cX6_wordsIn 39 = .ok (.goto (-35), 3) := by decide +kernel
theorem dX6_wordsIn_42 : decode cX6_wordsIn 42 = .ok (.iload_n 2, 1) := by decide +kernel
theorem dX6_wordsIn_43 : decode cX6_wordsIn 43 = .ok (.ireturn, 1) := by decide +kernel
theorem dX6_cell_0 : decode cX6_cell 0 = .ok (.aload_n 0, 1) := by decide +kernel
theorem dX6_cell_1 : decode cX6_cell 1 = .ok (.iload_n 1, 1) := by decide +kernel
theorem dX6_cell_2 : decode cX6_cell 2 = .ok (.invokevirtual 179, 3) := by decide +kernel
theorem dX6_cell_5 : decode cX6_cell 5 = .ok (.ifCond .ne 6, 3) := by decide +kernel
theorem dX6_cell_8 : decode cX6_cell 8 = .ok (.ldc 61, 2) := by decide +kernel
theorem dX6_cell_10 : decode cX6_cell 10 = .ok (.ireturn, 1) := by decide +kernel
theorem dX6_cell_11 : decode cX6_cell 11 = .ok (.iload_n 2, 1) := by decide +kernel
theorem dX6_cell_12 : decode cX6_cell 12 = .ok (.tableswitch 52 0 2 #[28, 37, 46], 28) := by decide +kernel
theorem dX6_cell_40 : decode cX6_cell 40 = .ok (.aload_n 0, 1) := by decide +kernel
theorem dX6_cell_41 : decode cX6_cell 41 = .ok (.getfield 25, 3) := by decide +kernel
theorem dX6_cell_44 : decode cX6_cell 44 = .ok (.iconst 5, 1) := by decide +kernel
theorem dX6_cell_45 : decode cX6_cell 45 = .ok (.iload_n 1, 1) := by decide +kernel
theorem dX6_cell_46 : decode cX6_cell 46 = .ok (.iadd, 1) := by decide +kernel
theorem dX6_cell_47 : decode cX6_cell 47 = .ok (.iaload, 1) := by decide +kernel
theorem dX6_cell_48 : decode cX6_cell 48 = .ok (.ireturn, 1) := by decide +kernel
theorem dX6_cell_49 : decode cX6_cell 49 = .ok (.aload_n 0, 1) := by decide +kernel
theorem dX6_cell_50 : decode cX6_cell 50 = .ok (.getfield 25, 3) := by decide +kernel
theorem dX6_cell_53 : decode cX6_cell 53 = .ok (.iload_n 1, 1) := by decide +kernel
theorem dX6_cell_54 : decode cX6_cell 54 = .ok (.invokestatic 146, 3) := by decide +kernel
theorem dX6_cell_57 : decode cX6_cell 57 = .ok (.ireturn, 1) := by decide +kernel
theorem dX6_cell_58 : decode cX6_cell 58 = .ok (.aload_n 0, 1) := by decide +kernel
theorem dX6_cell_59 : decode cX6_cell 59 = .ok (.iload_n 1, 1) := by decide +kernel
theorem dX6_cell_60 : decode cX6_cell 60 = .ok (.invokevirtual 189, 3) := by decide +kernel
theorem dX6_cell_63 : decode cX6_cell 63 = .ok (.ireturn, 1) := by decide +kernel
theorem dX6_cell_64 : decode cX6_cell 64 = .ok (.ldc 61, 2) := by decide +kernel
theorem dX6_cell_66 : decode cX6_cell 66 = .ok (.ireturn, 1) := by decide +kernel
theorem dX6_goesOn_0 : decode cX6_goesOn 0 = .ok (.iconst 0, 1) := by decide +kernel
theorem dX6_goesOn_1 : decode cX6_goesOn 1 = .ok (.istore_n 2, 1) := by decide +kernel
theorem dX6_goesOn_2 : decode cX6_goesOn 2 = .ok (.iload_n 2, 1) := by decide +kernel
theorem dX6_goesOn_3 : decode cX6_goesOn 3 = .ok (.iload_n 1, 1) := by decide +kernel
theorem dX6_goesOn_4 : decode cX6_goesOn 4 = .ok (.if_icmp .ge 16, 3) := by decide +kernel
theorem dX6_goesOn_7 : decode cX6_goesOn 7 = .ok (.aload_n 0, 1) := by decide +kernel
theorem dX6_goesOn_8 : decode cX6_goesOn 8 = .ok (.getfield 31, 3) := by decide +kernel
theorem dX6_goesOn_11 : decode cX6_goesOn 11 = .ok (.invokestatic 168, 3) := by decide +kernel
theorem dX6_goesOn_14 : decode cX6_goesOn 14 = .ok (.iinc 2 1, 3) := by decide +kernel
theorem dX6_goesOn_17 : decode cX6_goesOn 17 = .ok (.goto (-15), 3) := by decide +kernel
theorem dX6_goesOn_20 : decode cX6_goesOn 20 = .ok (.return_, 1) := by decide +kernel
theorem dX6_ahead_0 : decode cX6_ahead 0 = .ok (.aload_n 0, 1) := by decide +kernel
theorem dX6_ahead_1 : decode cX6_ahead 1 = .ok (.iload_n 1, 1) := by decide +kernel
theorem dX6_ahead_2 : decode cX6_ahead 2 = .ok (.invokevirtual 176, 3) := by decide +kernel
theorem dX6_ahead_5 : decode cX6_ahead 5 = .ok (.ifCond .eq 22, 3) := by decide +kernel
theorem dX6_ahead_8 : decode cX6_ahead 8 = .ok (.iload_n 2, 1) := by decide +kernel
theorem dX6_ahead_9 : decode cX6_ahead 9 = .ok (.iconst 0, 1) := by decide +kernel
theorem dX6_ahead_10 : decode cX6_ahead 10 = .ok (.bipush 60, 2) := by decide +kernel
theorem dX6_ahead_12 : decode cX6_ahead 12 = .ok (.invokestatic 53, 3) := by decide +kernel
theorem dX6_ahead_15 : decode cX6_ahead 15 = .ok (.ifCond .eq 12, 3) := by decide +kernel
theorem dX6_ahead_18 : decode cX6_ahead 18 = .ok (.iload_n 3, 1) := by decide +kernel
theorem dX6_ahead_19 : decode cX6_ahead 19 = .ok (.iconst 0, 1) := by decide +kernel
theorem dX6_ahead_20 : decode cX6_ahead 20 = .ok (.iconst 1, 1) := by decide +kernel
theorem dX6_ahead_21 : decode cX6_ahead 21 = .ok (.invokestatic 53, 3) := by decide +kernel
theorem dX6_ahead_24 : decode cX6_ahead 24 = .ok (.ifCond .ne 6, 3) := by decide +kernel
theorem dX6_ahead_27 : decode cX6_ahead 27 = .ok (.ldc 61, 2) := by decide +kernel
theorem dX6_ahead_29 : decode cX6_ahead 29 = .ok (.ireturn, 1) := by decide +kernel
theorem dX6_ahead_30 : decode cX6_ahead 30 = .ok (.aload_n 0, 1) := by decide +kernel
theorem dX6_ahead_31 : decode cX6_ahead 31 = .ok (.getfield 25, 3) := by decide +kernel
theorem dX6_ahead_34 : decode cX6_ahead 34 = .ok (.iconst 0, 1) := by decide +kernel
theorem dX6_ahead_35 : decode cX6_ahead 35 = .ok (.aload_n 0, 1) := by decide +kernel
theorem dX6_ahead_36 : decode cX6_ahead 36 = .ok (.getfield 31, 3) := by decide +kernel
theorem dX6_ahead_39 : decode cX6_ahead 39 = .ok (.iconst 0, 1) := by decide +kernel
theorem dX6_ahead_40 : decode cX6_ahead 40 = .ok (.invokestatic 135, 3) := by decide +kernel
theorem dX6_ahead_43 : decode cX6_ahead 43 = .ok (.aload_n 0, 1) := by decide +kernel
theorem dX6_ahead_44 : decode cX6_ahead 44 = .ok (.iload_n 2, 1) := by decide +kernel
theorem dX6_ahead_45 : decode cX6_ahead 45 = .ok (.invokevirtual 192, 3) := by decide +kernel
theorem dX6_ahead_48 : decode cX6_ahead 48 = .ok (.iload_n 3, 1) := by decide +kernel
theorem dX6_ahead_49 : decode cX6_ahead 49 = .ok (.ifCond .ne 14, 3) := by decide +kernel
theorem dX6_ahead_52 : decode cX6_ahead 52 = .ok (.aload_n 0, 1) := by decide +kernel
theorem dX6_ahead_53 : decode cX6_ahead 53 = .ok (.getfield 31, 3) := by decide +kernel
theorem dX6_ahead_56 : decode cX6_ahead 56 = .ok (.iload_n 1, 1) := by decide +kernel
theorem dX6_ahead_57 : decode cX6_ahead 57 = .ok (.invokestatic 186, 3) := by decide +kernel
theorem dX6_ahead_60 : decode cX6_ahead 60 = .ok (.goto 16, 3) := by decide +kernel
theorem dX6_ahead_63 : decode cX6_ahead 63 = .ok (.aload_n 0, 1) := by decide +kernel
theorem dX6_ahead_64 : decode cX6_ahead 64 = .ok (.getfield 31, 3) := by decide +kernel
theorem dX6_ahead_67 : decode cX6_ahead 67 = .ok (.bipush 17, 2) := by decide +kernel
theorem dX6_ahead_69 : decode cX6_ahead 69 = .ok (.iconst 4, 1) := by decide +kernel
theorem dX6_ahead_70 : decode cX6_ahead 70 = .ok (.iload_n 1, 1) := by decide +kernel
theorem dX6_ahead_71 : decode cX6_ahead 71 = .ok (.imul, 1) := by decide +kernel
theorem dX6_ahead_72 : decode cX6_ahead 72 = .ok (.iadd, 1) := by decide +kernel
theorem dX6_ahead_73 : decode cX6_ahead 73 = .ok (.iconst 1, 1) := by decide +kernel
theorem dX6_ahead_74 : decode cX6_ahead 74 = .ok (.iadd, 1) := by decide +kernel
theorem dX6_ahead_75 : decode cX6_ahead 75 = .ok (.iaload, 1) := by decide +kernel
theorem dX6_ahead_76 : decode cX6_ahead 76 = .ok (.ireturn, 1) := by decide +kernel
theorem dX6_quarrel_0 : decode cX6_quarrel 0 = .ok (.aload_n 0, 1) := by decide +kernel
theorem dX6_quarrel_1 : decode cX6_quarrel 1 = .ok (.invokevirtual 161, 3) := by decide +kernel
theorem dX6_quarrel_4 : decode cX6_quarrel 4 = .ok (.ifCond .ne 6, 3) := by decide +kernel
theorem dX6_quarrel_7 : decode cX6_quarrel 7 = .ok (.ldc 164, 2) := by decide +kernel
theorem dX6_quarrel_9 : decode cX6_quarrel 9 = .ok (.ireturn, 1) := by decide +kernel
theorem dX6_quarrel_10 : decode cX6_quarrel 10 = .ok (.iload_n 1, 1) := by decide +kernel
theorem dX6_quarrel_11 : decode cX6_quarrel 11 = .ok (.iconst 0, 1) := by decide +kernel
theorem dX6_quarrel_12 : decode cX6_quarrel 12 = .ok (.bipush 60, 2) := by decide +kernel
theorem dX6_quarrel_14 : decode cX6_quarrel 14 = .ok (.invokestatic 53, 3) := by decide +kernel
theorem dX6_quarrel_17 : decode cX6_quarrel 17 = .ok (.ifCond .ne 6, 3) := by decide +kernel
theorem dX6_quarrel_20 : decode cX6_quarrel 20 = .ok (.ldc 61, 2) := by decide +kernel
theorem dX6_quarrel_22 : decode cX6_quarrel 22 = .ok (.ireturn, 1) := by decide +kernel
theorem dX6_quarrel_23 : decode cX6_quarrel 23 = .ok (.aload_n 0, 1) := by decide +kernel
theorem dX6_quarrel_24 : decode cX6_quarrel 24 = .ok (.getfield 25, 3) := by decide +kernel
theorem dX6_quarrel_27 : decode cX6_quarrel 27 = .ok (.iconst 0, 1) := by decide +kernel
theorem dX6_quarrel_28 : decode cX6_quarrel 28 = .ok (.aload_n 0, 1) := by decide +kernel
theorem dX6_quarrel_29 : decode cX6_quarrel 29 = .ok (.getfield 31, 3) := by decide +kernel
theorem dX6_quarrel_32 : decode cX6_quarrel 32 = .ok (.iconst 0, 1) := by decide +kernel
theorem dX6_quarrel_33 : decode cX6_quarrel 33 = .ok (.invokestatic 135, 3) := by decide +kernel
theorem dX6_quarrel_36 : decode cX6_quarrel 36 = .ok (.aload_n 0, 1) := by decide +kernel
theorem dX6_quarrel_37 : decode cX6_quarrel 37 = .ok (.iload_n 1, 1) := by decide +kernel
theorem dX6_quarrel_38 : decode cX6_quarrel 38 = .ok (.invokevirtual 192, 3) := by decide +kernel
theorem dX6_quarrel_41 : decode cX6_quarrel 41 = .ok (.aload_n 0, 1) := by decide +kernel
theorem dX6_quarrel_42 : decode cX6_quarrel 42 = .ok (.getfield 31, 3) := by decide +kernel
theorem dX6_quarrel_45 : decode cX6_quarrel 45 = .ok (.invokestatic 196, 3) := by decide +kernel
theorem dX6_quarrel_48 : decode cX6_quarrel 48 = .ok (.ireturn, 1) := by decide +kernel
theorem dX6_over_0 : decode cX6_over 0 = .ok (.aload_n 0, 1) := by decide +kernel
theorem dX6_over_1 : decode cX6_over 1 = .ok (.iload_n 1, 1) := by decide +kernel
theorem dX6_over_2 : decode cX6_over 2 = .ok (.invokevirtual 176, 3) := by decide +kernel
theorem dX6_over_5 : decode cX6_over 5 = .ok (.ifCond .ne 6, 3) := by decide +kernel
theorem dX6_over_8 : decode cX6_over 8 = .ok (.ldc 61, 2) := by decide +kernel
theorem dX6_over_10 : decode cX6_over 10 = .ok (.ireturn, 1) := by decide +kernel
theorem dX6_over_11 : decode cX6_over 11 = .ok (.aload_n 0, 1) := by decide +kernel
theorem dX6_over_12 : decode cX6_over 12 = .ok (.getfield 25, 3) := by decide +kernel
theorem dX6_over_15 : decode cX6_over 15 = .ok (.iconst 0, 1) := by decide +kernel
theorem dX6_over_16 : decode cX6_over 16 = .ok (.aload_n 0, 1) := by decide +kernel
theorem dX6_over_17 : decode cX6_over 17 = .ok (.getfield 31, 3) := by decide +kernel
theorem dX6_over_20 : decode cX6_over 20 = .ok (.iconst 0, 1) := by decide +kernel
theorem dX6_over_21 : decode cX6_over 21 = .ok (.invokestatic 135, 3) := by decide +kernel
theorem dX6_over_24 : decode cX6_over 24 = .ok (.iconst 0, 1) := by decide +kernel
theorem dX6_over_25 : decode cX6_over 25 = .ok (.istore_n 2, 1) := by decide +kernel
theorem dX6_over_26 : decode cX6_over 26 = .ok (.iload_n 2, 1) := by decide +kernel
theorem dX6_over_27 : decode cX6_over 27 = .ok (.bipush 61, 2) := by decide +kernel
theorem dX6_over_29 : decode cX6_over 29 = .ok (.if_icmp .ge 35, 3) := by decide +kernel
theorem dX6_over_32 : decode cX6_over 32 = .ok (.aload_n 0, 1) := by decide +kernel
theorem dX6_over_33 : decode cX6_over 33 = .ok (.getfield 31, 3) := by decide +kernel
theorem dX6_over_36 : decode cX6_over 36 = .ok (.bipush 17, 2) := by decide +kernel
theorem dX6_over_38 : decode cX6_over 38 = .ok (.iconst 4, 1) := by decide +kernel
theorem dX6_over_39 : decode cX6_over 39 = .ok (.iload_n 1, 1) := by decide +kernel
theorem dX6_over_40 : decode cX6_over 40 = .ok (.imul, 1) := by decide +kernel
theorem dX6_over_41 : decode cX6_over 41 = .ok (.iadd, 1) := by decide +kernel
theorem dX6_over_42 : decode cX6_over 42 = .ok (.iconst 3, 1) := by decide +kernel
theorem dX6_over_43 : decode cX6_over 43 = .ok (.iadd, 1) := by decide +kernel
theorem dX6_over_44 : decode cX6_over 44 = .ok (.iaload, 1) := by decide +kernel
theorem dX6_over_45 : decode cX6_over 45 = .ok (.iconst 1, 1) := by decide +kernel
theorem dX6_over_46 : decode cX6_over 46 = .ok (.if_icmp .ne 5, 3) := by decide +kernel
theorem dX6_over_49 : decode cX6_over 49 = .ok (.iload_n 2, 1) := by decide +kernel
theorem dX6_over_50 : decode cX6_over 50 = .ok (.ireturn, 1) := by decide +kernel
theorem dX6_over_51 : decode cX6_over 51 = .ok (.aload_n 0, 1) := by decide +kernel
theorem dX6_over_52 : decode cX6_over 52 = .ok (.getfield 31, 3) := by decide +kernel
theorem dX6_over_55 : decode cX6_over 55 = .ok (.invokestatic 168, 3) := by decide +kernel
theorem dX6_over_58 : decode cX6_over 58 = .ok (.iinc 2 1, 3) := by decide +kernel
theorem dX6_over_61 : decode cX6_over 61 = .ok (.goto (-35), 3) := by decide +kernel
theorem dX6_over_64 : decode cX6_over 64 = .ok (.ldc 47, 2) := by decide +kernel
theorem dX6_over_66 : decode cX6_over 66 = .ok (.ireturn, 1) := by decide +kernel
theorem dX6_kept_0 : decode cX6_kept 0 = .ok (.aload_n 0, 1) := by decide +kernel
theorem dX6_kept_1 : decode cX6_kept 1 = .ok (.invokevirtual 161, 3) := by decide +kernel
theorem dX6_kept_4 : decode cX6_kept 4 = .ok (.ifCond .ne 6, 3) := by decide +kernel
theorem dX6_kept_7 : decode cX6_kept 7 = .ok (.ldc 164, 2) := by decide +kernel
theorem dX6_kept_9 : decode cX6_kept 9 = .ok (.ireturn, 1) := by decide +kernel
theorem dX6_kept_10 : decode cX6_kept 10 = .ok (.aload_n 0, 1) := by decide +kernel
theorem dX6_kept_11 : decode cX6_kept 11 = .ok (.getfield 25, 3) := by decide +kernel
theorem dX6_kept_14 : decode cX6_kept 14 = .ok (.iconst 0, 1) := by decide +kernel
theorem dX6_kept_15 : decode cX6_kept 15 = .ok (.aload_n 0, 1) := by decide +kernel
theorem dX6_kept_16 : decode cX6_kept 16 = .ok (.getfield 31, 3) := by decide +kernel
theorem dX6_kept_19 : decode cX6_kept 19 = .ok (.iconst 0, 1) := by decide +kernel
theorem dX6_kept_20 : decode cX6_kept 20 = .ok (.invokestatic 135, 3) := by decide +kernel
theorem dX6_kept_23 : decode cX6_kept 23 = .ok (.aload_n 0, 1) := by decide +kernel
theorem dX6_kept_24 : decode cX6_kept 24 = .ok (.bipush 60, 2) := by decide +kernel
theorem dX6_kept_26 : decode cX6_kept 26 = .ok (.invokevirtual 192, 3) := by decide +kernel
theorem dX6_kept_29 : decode cX6_kept 29 = .ok (.aload_n 0, 1) := by decide +kernel
theorem dX6_kept_30 : decode cX6_kept 30 = .ok (.getfield 25, 3) := by decide +kernel
theorem dX6_kept_33 : decode cX6_kept 33 = .ok (.invokestatic 199, 3) := by decide +kernel
theorem dX6_kept_36 : decode cX6_kept 36 = .ok (.aload_n 0, 1) := by decide +kernel
theorem dX6_kept_37 : decode cX6_kept 37 = .ok (.getfield 31, 3) := by decide +kernel
theorem dX6_kept_40 : decode cX6_kept 40 = .ok (.invokestatic 172, 3) := by decide +kernel
theorem dX6_kept_43 : decode cX6_kept 43 = .ok (.iconst (-1), 1) := by decide +kernel
theorem dX6_kept_44 : decode cX6_kept 44 = .ok (.ixor, 1) := by decide +kernel
theorem dX6_kept_45 : decode cX6_kept 45 = .ok (.iand, 1) := by decide +kernel
theorem dX6_kept_46 : decode cX6_kept 46 = .ok (.ireturn, 1) := by decide +kernel
theorem dX6_isNear_0 : decode cX6_isNear 0 = .ok (.iload_n 0, 1) := by decide +kernel
theorem dX6_isNear_1 : decode cX6_isNear 1 = .ok (.iconst 1, 1) := by decide +kernel
theorem dX6_isNear_2 : decode cX6_isNear 2 = .ok (.bipush 30, 2) := by decide +kernel
theorem dX6_isNear_4 : decode cX6_isNear 4 = .ok (.invokestatic 53, 3) := by decide +kernel
theorem dX6_isNear_7 : decode cX6_isNear 7 = .ok (.ireturn, 1) := by decide +kernel
theorem dX6_calm_0 : decode cX6_calm 0 = .ok (.aload_n 0, 1) := by decide +kernel
theorem dX6_calm_1 : decode cX6_calm 1 = .ok (.invokevirtual 161, 3) := by decide +kernel
theorem dX6_calm_4 : decode cX6_calm 4 = .ok (.ifCond .ne 6, 3) := by decide +kernel
theorem dX6_calm_7 : decode cX6_calm 7 = .ok (.ldc 164, 2) := by decide +kernel
theorem dX6_calm_9 : decode cX6_calm 9 = .ok (.ireturn, 1) := by decide +kernel
theorem dX6_calm_10 : decode cX6_calm 10 = .ok (.iload_n 1, 1) := by decide +kernel
theorem dX6_calm_11 : decode cX6_calm 11 = .ok (.invokestatic 202, 3) := by decide +kernel
theorem dX6_calm_14 : decode cX6_calm 14 = .ok (.ifCond .eq 12, 3) := by decide +kernel
theorem dX6_calm_17 : decode cX6_calm 17 = .ok (.iload_n 2, 1) := by decide +kernel
theorem dX6_calm_18 : decode cX6_calm 18 = .ok (.iconst 0, 1) := by decide +kernel
theorem dX6_calm_19 : decode cX6_calm 19 = .ok (.iconst 1, 1) := by decide +kernel
theorem dX6_calm_20 : decode cX6_calm 20 = .ok (.invokestatic 53, 3) := by decide +kernel
theorem dX6_calm_23 : decode cX6_calm 23 = .ok (.ifCond .ne 6, 3) := by decide +kernel
theorem dX6_calm_26 : decode cX6_calm 26 = .ok (.ldc 61, 2) := by decide +kernel
theorem dX6_calm_28 : decode cX6_calm 28 = .ok (.ireturn, 1) := by decide +kernel
theorem dX6_calm_29 : decode cX6_calm 29 = .ok (.ldc 47, 2) := by decide +kernel
theorem dX6_calm_31 : decode cX6_calm 31 = .ok (.istore_n 3, 1) := by decide +kernel
theorem dX6_calm_32 : decode cX6_calm 32 = .ok (.iconst 0, 1) := by decide +kernel
theorem dX6_calm_33 : decode cX6_calm 33 = .ok (.istore 4, 2) := by decide +kernel
theorem dX6_calm_35 : decode cX6_calm 35 = .ok (.iconst 0, 1) := by decide +kernel
theorem dX6_calm_36 : decode cX6_calm 36 = .ok (.istore 5, 2) := by decide +kernel
theorem dX6_calm_38 : decode cX6_calm 38 = .ok (.iload 5, 2) := by decide +kernel
theorem dX6_calm_40 : decode cX6_calm 40 = .ok (.aload_n 0, 1) := by decide +kernel
theorem dX6_calm_41 : decode cX6_calm 41 = .ok (.getfield 25, 3) := by decide +kernel
theorem dX6_calm_44 : decode cX6_calm 44 = .ok (.iconst 2, 1) := by decide +kernel
theorem dX6_calm_45 : decode cX6_calm 45 = .ok (.iaload, 1) := by decide +kernel
theorem dX6_calm_46 : decode cX6_calm 46 = .ok (.if_icmp .ge 93, 3) := by decide +kernel
theorem dX6_calm_49 : decode cX6_calm 49 = .ok (.aload_n 0, 1) := by decide +kernel
theorem dX6_calm_50 : decode cX6_calm 50 = .ok (.getfield 25, 3) := by decide +kernel
theorem dX6_calm_53 : decode cX6_calm 53 = .ok (.iconst 0, 1) := by decide +kernel
theorem dX6_calm_54 : decode cX6_calm 54 = .ok (.aload_n 0, 1) := by decide +kernel
theorem dX6_calm_55 : decode cX6_calm 55 = .ok (.getfield 31, 3) := by decide +kernel
theorem dX6_calm_58 : decode cX6_calm 58 = .ok (.iconst 0, 1) := by decide +kernel
theorem dX6_calm_59 : decode cX6_calm 59 = .ok (.invokestatic 135, 3) := by decide +kernel
theorem dX6_calm_62 : decode cX6_calm 62 = .ok (.aload_n 0, 1) := by decide +kernel
theorem dX6_calm_63 : decode cX6_calm 63 = .ok (.getfield 31, 3) := by decide +kernel
theorem dX6_calm_66 : decode cX6_calm 66 = .ok (.iconst 5, 1) := by decide +kernel
theorem dX6_calm_67 : decode cX6_calm 67 = .ok (.iload 5, 2) := by decide +kernel
theorem dX6_calm_69 : decode cX6_calm 69 = .ok (.iadd, 1) := by decide +kernel
theorem dX6_calm_70 : decode cX6_calm 70 = .ok (.iconst 0, 1) := by decide +kernel
theorem dX6_calm_71 : decode cX6_calm 71 = .ok (.iastore, 1) := by decide +kernel
theorem dX6_calm_72 : decode cX6_calm 72 = .ok (.aload_n 0, 1) := by decide +kernel
theorem dX6_calm_73 : decode cX6_calm 73 = .ok (.iload_n 1, 1) := by decide +kernel
theorem dX6_calm_74 : decode cX6_calm 74 = .ok (.invokevirtual 192, 3) := by decide +kernel
theorem dX6_calm_77 : decode cX6_calm 77 = .ok (.iload_n 3, 1) := by decide +kernel
theorem dX6_calm_78 : decode cX6_calm 78 = .ok (.ldc 47, 2) := by decide +kernel
theorem dX6_calm_80 : decode cX6_calm 80 = .ok (.if_icmp .eq 15, 3) := by decide +kernel
theorem dX6_calm_83 : decode cX6_calm 83 = .ok (.aload_n 0, 1) := by decide +kernel
theorem dX6_calm_84 : decode cX6_calm 84 = .ok (.getfield 31, 3) := by decide +kernel
theorem dX6_calm_87 : decode cX6_calm 87 = .ok (.invokestatic 196, 3) := by decide +kernel
theorem dX6_calm_90 : decode cX6_calm 90 = .ok (.iload 4, 2) := by decide +kernel
theorem dX6_calm_92 : decode cX6_calm 92 = .ok (.if_icmp .ge 7, 3) := by decide +kernel
theorem dX6_calm_95 : decode cX6_calm 95 = .ok (.iconst 1, 1) := by decide +kernel
theorem dX6_calm_96 : decode cX6_calm 96 = .ok (.goto 4, 3) := by decide +kernel
theorem dX6_calm_99 : decode cX6_calm 99 = .ok (.iconst 0, 1) := by decide +kernel
theorem dX6_calm_100 : decode cX6_calm 100 = .ok (.istore 6, 2) := by decide +kernel
theorem dX6_calm_102 : decode cX6_calm 102 = .ok (.iload 6, 2) := by decide +kernel
theorem dX6_calm_104 : decode cX6_calm 104 = .ok (.ifCond .eq 8, 3) := by decide +kernel
theorem dX6_calm_107 : decode cX6_calm 107 = .ok (.iload 5, 2) := by decide +kernel
theorem dX6_calm_109 : decode cX6_calm 109 = .ok (.goto 4, 3) := by decide +kernel
theorem dX6_calm_112 : decode cX6_calm 112 = .ok (.iload_n 3, 1) := by decide +kernel
theorem dX6_calm_113 : decode cX6_calm 113 = .ok (.istore_n 3, 1) := by decide +kernel
theorem dX6_calm_114 : decode cX6_calm 114 = .ok (.iload 6, 2) := by decide +kernel
theorem dX6_calm_116 : decode cX6_calm 116 = .ok (.ifCond .eq 13, 3) := by decide +kernel
theorem dX6_calm_119 : decode cX6_calm 119 = .ok (.aload_n 0, 1) := by decide +kernel
theorem dX6_calm_120 : decode cX6_calm 120 = .ok (.getfield 31, 3) := by decide +kernel
theorem dX6_calm_123 : decode cX6_calm 123 = .ok (.invokestatic 196, 3) := by decide +kernel
theorem dX6_calm_126 : decode cX6_calm 126 = .ok (.goto 5, 3) := by decide +kernel
theorem dX6_calm_129 : decode cX6_calm 129 = .ok (.iload 4, 2) := by decide +kernel
theorem dX6_calm_131 : decode cX6_calm 131 = .ok (.istore 4, 2) := by decide +kernel
theorem dX6_calm_133 : decode cX6_calm 133 = .ok (.iinc 5 1, 3) := by decide +kernel
theorem dX6_calm_136 : decode cX6_calm 136 = .ok (.goto (-98), 3) := by decide +kernel
theorem dX6_calm_139 : decode cX6_calm 139 = .ok (.iload_n 2, 1) := by decide +kernel
theorem dX6_calm_140 : decode cX6_calm 140 = .ok (.ifCond .ne 7, 3) := by decide +kernel
theorem dX6_calm_143 : decode cX6_calm 143 = .ok (.iload_n 3, 1) := by decide +kernel
theorem dX6_calm_144 : decode cX6_calm 144 = .ok (.goto 5, 3) := by decide +kernel
theorem dX6_calm_147 : decode cX6_calm 147 = .ok (.iload 4, 2) := by decide +kernel
theorem dX6_calm_149 : decode cX6_calm 149 = .ok (.ireturn, 1) := by decide +kernel
theorem dX6_swift_0 : decode cX6_swift 0 = .ok (.aload_n 0, 1) := by decide +kernel
theorem dX6_swift_1 : decode cX6_swift 1 = .ok (.invokevirtual 161, 3) := by decide +kernel
theorem dX6_swift_4 : decode cX6_swift 4 = .ok (.ifCond .ne 6, 3) := by decide +kernel
theorem dX6_swift_7 : decode cX6_swift 7 = .ok (.ldc 164, 2) := by decide +kernel
theorem dX6_swift_9 : decode cX6_swift 9 = .ok (.ireturn, 1) := by decide +kernel
theorem dX6_swift_10 : decode cX6_swift 10 = .ok (.iload_n 1, 1) := by decide +kernel
theorem dX6_swift_11 : decode cX6_swift 11 = .ok (.invokestatic 202, 3) := by decide +kernel
theorem dX6_swift_14 : decode cX6_swift 14 = .ok (.ifCond .eq 12, 3) := by decide +kernel
theorem dX6_swift_17 : decode cX6_swift 17 = .ok (.iload_n 2, 1) := by decide +kernel
theorem dX6_swift_18 : decode cX6_swift 18 = .ok (.iconst 0, 1) := by decide +kernel
theorem dX6_swift_19 : decode cX6_swift 19 = .ok (.iconst 1, 1) := by decide +kernel
theorem dX6_swift_20 : decode cX6_swift 20 = .ok (.invokestatic 53, 3) := by decide +kernel
theorem dX6_swift_23 : decode cX6_swift 23 = .ok (.ifCond .ne 6, 3) := by decide +kernel
theorem dX6_swift_26 : decode cX6_swift 26 = .ok (.ldc 61, 2) := by decide +kernel
theorem dX6_swift_28 : decode cX6_swift 28 = .ok (.ireturn, 1) := by decide +kernel
theorem dX6_swift_29 : decode cX6_swift 29 = .ok (.ldc 47, 2) := by decide +kernel
theorem dX6_swift_31 : decode cX6_swift 31 = .ok (.istore_n 3, 1) := by decide +kernel
theorem dX6_swift_32 : decode cX6_swift 32 = .ok (.iconst 0, 1) := by decide +kernel
theorem dX6_swift_33 : decode cX6_swift 33 = .ok (.istore 4, 2) := by decide +kernel
theorem dX6_swift_35 : decode cX6_swift 35 = .ok (.iload 4, 2) := by decide +kernel
theorem dX6_swift_37 : decode cX6_swift 37 = .ok (.iconst 1, 1) := by decide +kernel
theorem dX6_swift_38 : decode cX6_swift 38 = .ok (.aload_n 0, 1) := by decide +kernel
theorem dX6_swift_39 : decode cX6_swift 39 = .ok (.getfield 25, 3) := by decide +kernel
theorem dX6_swift_42 : decode cX6_swift 42 = .ok (.iconst 2, 1) := by decide +kernel
theorem dX6_swift_43 : decode cX6_swift 43 = .ok (.iaload, 1) := by decide +kernel
theorem dX6_swift_44 : decode cX6_swift 44 = .ok (.ishl, 1) := by decide +kernel
theorem dX6_swift_45 : decode cX6_swift 45 = .ok (.if_icmp .ge 133, 3) := by decide +kernel
theorem dX6_swift_48 : decode cX6_swift 48 = .ok (.iload_n 3, 1) := by decide +kernel
theorem dX6_swift_49 : decode cX6_swift 49 = .ok (.ldc 47, 2) := by decide +kernel
theorem dX6_swift_51 : decode cX6_swift 51 = .ok (.if_icmp .eq 15, 3) := by decide +kernel
theorem dX6_swift_54 : decode cX6_swift 54 = .ok (.iload 4, 2) := by decide +kernel
theorem dX6_swift_56 : decode cX6_swift 56 = .ok (.invokestatic 205, 3) := by decide +kernel
theorem dX6_swift_59 : decode cX6_swift 59 = .ok (.iload_n 3, 1) := by decide +kernel
theorem dX6_swift_60 : decode cX6_swift 60 = .ok (.invokestatic 205, 3) := by decide +kernel
theorem dX6_swift_63 : decode cX6_swift 63 = .ok (.if_icmp .ge 7, 3) := by decide +kernel
theorem dX6_swift_66 : decode cX6_swift 66 = .ok (.iconst 1, 1) := by decide +kernel
theorem dX6_swift_67 : decode cX6_swift 67 = .ok (.goto 4, 3) := by decide +kernel
theorem dX6_swift_70 : decode cX6_swift 70 = .ok (.iconst 0, 1) := by decide +kernel
theorem dX6_swift_71 : decode cX6_swift 71 = .ok (.istore 5, 2) := by decide +kernel
theorem dX6_swift_73 : decode cX6_swift 73 = .ok (.iload 5, 2) := by decide +kernel
theorem dX6_swift_75 : decode cX6_swift 75 = .ok (.ifCond .eq 97, 3) := by decide +kernel
theorem dX6_swift_78 : decode cX6_swift 78 = .ok (.aload_n 0, 1) := by decide +kernel
theorem dX6_swift_79 : decode cX6_swift 79 = .ok (.getfield 25, 3) := by decide +kernel
theorem dX6_swift_82 : decode cX6_swift 82 = .ok (.iconst 0, 1) := by decide +kernel
theorem dX6_swift_83 : decode cX6_swift 83 = .ok (.aload_n 0, 1) := by decide +kernel
theorem dX6_swift_84 : decode cX6_swift 84 = .ok (.getfield 31, 3) := by decide +kernel
theorem dX6_swift_87 : decode cX6_swift 87 = .ok (.iconst 0, 1) := by decide +kernel
theorem dX6_swift_88 : decode cX6_swift 88 = .ok (.invokestatic 135, 3) := by decide +kernel
theorem dX6_swift_91 : decode cX6_swift 91 = .ok (.iconst 0, 1) := by decide +kernel
theorem dX6_swift_92 : decode cX6_swift 92 = .ok (.istore 6, 2) := by decide +kernel
theorem dX6_swift_94 : decode cX6_swift 94 = .ok (.iload 6, 2) := by decide +kernel
theorem dX6_swift_96 : decode cX6_swift 96 = .ok (.aload_n 0, 1) := by decide +kernel
theorem dX6_swift_97 : decode cX6_swift 97 = .ok (.getfield 25, 3) := by decide +kernel
theorem dX6_swift_100 : decode cX6_swift 100 = .ok (.iconst 2, 1) := by decide +kernel
theorem dX6_swift_101 : decode cX6_swift 101 = .ok (.iaload, 1) := by decide +kernel
theorem dX6_swift_102 : decode cX6_swift 102 = .ok (.if_icmp .ge 41, 3) := by decide +kernel
theorem dX6_swift_105 : decode cX6_swift 105 = .ok (.aload_n 0, 1) := by decide +kernel
theorem dX6_swift_106 : decode cX6_swift 106 = .ok (.getfield 31, 3) := by decide +kernel
theorem dX6_swift_109 : decode cX6_swift 109 = .ok (.iconst 5, 1) := by decide +kernel
theorem dX6_swift_110 : decode cX6_swift 110 = .ok (.iload 6, 2) := by decide +kernel
theorem dX6_swift_112 : decode cX6_swift 112 = .ok (.iadd, 1) := by decide +kernel
theorem dX6_swift_113 : decode cX6_swift 113 = .ok (.iload 4, 2) := by decide +kernel
theorem dX6_swift_115 : decode cX6_swift 115 = .ok (.iload 6, 2) := by decide +kernel
theorem dX6_swift_117 : decode cX6_swift 117 = .ok (.invokestatic 142, 3) := by decide +kernel
theorem dX6_swift_120 : decode cX6_swift 120 = .ok (.ifCond .eq 7, 3) := by decide +kernel
theorem dX6_swift_123 : decode cX6_swift 123 = .ok (.iconst 3, 1) := by decide +kernel
theorem dX6_swift_124 : decode cX6_swift 124 = .ok (.goto 12, 3) := by decide +kernel
theorem dX6_swift_127 : decode cX6_swift 127 = .ok (.aload_n 0, 1) := by decide +kernel
theorem dX6_swift_128 : decode cX6_swift 128 = .ok (.getfield 25, 3) := by decide +kernel
theorem dX6_swift_131 : decode cX6_swift 131 = .ok (.iconst 5, 1) := by decide +kernel
theorem dX6_swift_132 : decode cX6_swift 132 = .ok (.iload 6, 2) := by decide +kernel
theorem dX6_swift_134 : decode cX6_swift 134 = .ok (.iadd, 1) := by decide +kernel
theorem dX6_swift_135 : decode cX6_swift 135 = .ok (.iaload, 1) := by decide +kernel
theorem dX6_swift_136 : decode cX6_swift 136 = .ok (.iastore, 1) := by decide +kernel
theorem dX6_swift_137 : decode cX6_swift 137 = .ok (.iinc 6 1, 3) := by decide +kernel
theorem dX6_swift_140 : decode cX6_swift 140 = .ok (.goto (-46), 3) := by decide +kernel
theorem dX6_swift_143 : decode cX6_swift 143 = .ok (.aload_n 0, 1) := by decide +kernel
theorem dX6_swift_144 : decode cX6_swift 144 = .ok (.iload_n 1, 1) := by decide +kernel
theorem dX6_swift_145 : decode cX6_swift 145 = .ok (.invokevirtual 192, 3) := by decide +kernel
theorem dX6_swift_148 : decode cX6_swift 148 = .ok (.aload_n 0, 1) := by decide +kernel
theorem dX6_swift_149 : decode cX6_swift 149 = .ok (.getfield 31, 3) := by decide +kernel
theorem dX6_swift_152 : decode cX6_swift 152 = .ok (.invokestatic 172, 3) := by decide +kernel
theorem dX6_swift_155 : decode cX6_swift 155 = .ok (.aload_n 0, 1) := by decide +kernel
theorem dX6_swift_156 : decode cX6_swift 156 = .ok (.getfield 25, 3) := by decide +kernel
theorem dX6_swift_159 : decode cX6_swift 159 = .ok (.invokestatic 199, 3) := by decide +kernel
theorem dX6_swift_162 : decode cX6_swift 162 = .ok (.if_icmp .ne 8, 3) := by decide +kernel
theorem dX6_swift_165 : decode cX6_swift 165 = .ok (.iload 4, 2) := by decide +kernel
theorem dX6_swift_167 : decode cX6_swift 167 = .ok (.goto 4, 3) := by decide +kernel
theorem dX6_swift_170 : decode cX6_swift 170 = .ok (.iload_n 3, 1) := by decide +kernel
theorem dX6_swift_171 : decode cX6_swift 171 = .ok (.istore_n 3, 1) := by decide +kernel
theorem dX6_swift_172 : decode cX6_swift 172 = .ok (.iinc 4 1, 3) := by decide +kernel
theorem dX6_swift_175 : decode cX6_swift 175 = .ok (.goto (-140), 3) := by decide +kernel
theorem dX6_swift_178 : decode cX6_swift 178 = .ok (.iload_n 3, 1) := by decide +kernel
theorem dX6_swift_179 : decode cX6_swift 179 = .ok (.ldc 47, 2) := by decide +kernel
theorem dX6_swift_181 : decode cX6_swift 181 = .ok (.if_icmp .eq 8, 3) := by decide +kernel
theorem dX6_swift_184 : decode cX6_swift 184 = .ok (.iload_n 2, 1) := by decide +kernel
theorem dX6_swift_185 : decode cX6_swift 185 = .ok (.iconst 1, 1) := by decide +kernel
theorem dX6_swift_186 : decode cX6_swift 186 = .ok (.if_icmp .ne 7, 3) := by decide +kernel
theorem dX6_swift_189 : decode cX6_swift 189 = .ok (.iload_n 3, 1) := by decide +kernel
theorem dX6_swift_190 : decode cX6_swift 190 = .ok (.goto 7, 3) := by decide +kernel
theorem dX6_swift_193 : decode cX6_swift 193 = .ok (.iload_n 3, 1) := by decide +kernel
theorem dX6_swift_194 : decode cX6_swift 194 = .ok (.invokestatic 205, 3) := by decide +kernel
theorem dX6_swift_197 : decode cX6_swift 197 = .ok (.ireturn, 1) := by decide +kernel
theorem dX6_stir_0 : decode cX6_stir 0 = .ok (.aload_n 0, 1) := by decide +kernel
theorem dX6_stir_1 : decode cX6_stir 1 = .ok (.iload_n 1, 1) := by decide +kernel
theorem dX6_stir_2 : decode cX6_stir 2 = .ok (.invokevirtual 176, 3) := by decide +kernel
theorem dX6_stir_5 : decode cX6_stir 5 = .ok (.ifCond .eq 18, 3) := by decide +kernel
theorem dX6_stir_8 : decode cX6_stir 8 = .ok (.aload_n 0, 1) := by decide +kernel
theorem dX6_stir_9 : decode cX6_stir 9 = .ok (.iload_n 2, 1) := by decide +kernel
theorem dX6_stir_10 : decode cX6_stir 10 = .ok (.invokevirtual 179, 3) := by decide +kernel
theorem dX6_stir_13 : decode cX6_stir 13 = .ok (.ifCond .eq 10, 3) := by decide +kernel
theorem dX6_stir_16 : decode cX6_stir 16 = .ok (.iload_n 3, 1) := by decide +kernel
theorem dX6_stir_17 : decode cX6_stir 17 = .ok (.invokestatic 202, 3) := by decide +kernel
theorem dX6_stir_20 : decode cX6_stir 20 = .ok (.ifCond .ne 6, 3) := by decide +kernel
theorem dX6_stir_23 : decode cX6_stir 23 = .ok (.ldc 61, 2) := by decide +kernel
theorem dX6_stir_25 : decode cX6_stir 25 = .ok (.ireturn, 1) := by decide +kernel
theorem dX6_stir_26 : decode cX6_stir 26 = .ok (.iconst 0, 1) := by decide +kernel
theorem dX6_stir_27 : decode cX6_stir 27 = .ok (.istore 4, 2) := by decide +kernel
theorem dX6_stir_29 : decode cX6_stir 29 = .ok (.iload 4, 2) := by decide +kernel
theorem dX6_stir_31 : decode cX6_stir 31 = .ok (.iconst 4, 1) := by decide +kernel
theorem dX6_stir_32 : decode cX6_stir 32 = .ok (.if_icmp .ge 57, 3) := by decide +kernel
theorem dX6_stir_35 : decode cX6_stir 35 = .ok (.aload_n 0, 1) := by decide +kernel
theorem dX6_stir_36 : decode cX6_stir 36 = .ok (.getfield 25, 3) := by decide +kernel
theorem dX6_stir_39 : decode cX6_stir 39 = .ok (.iconst 0, 1) := by decide +kernel
theorem dX6_stir_40 : decode cX6_stir 40 = .ok (.aload_n 0, 1) := by decide +kernel
theorem dX6_stir_41 : decode cX6_stir 41 = .ok (.getfield 31, 3) := by decide +kernel
theorem dX6_stir_44 : decode cX6_stir 44 = .ok (.iconst 0, 1) := by decide +kernel
theorem dX6_stir_45 : decode cX6_stir 45 = .ok (.invokestatic 135, 3) := by decide +kernel
theorem dX6_stir_48 : decode cX6_stir 48 = .ok (.aload_n 0, 1) := by decide +kernel
theorem dX6_stir_49 : decode cX6_stir 49 = .ok (.getfield 31, 3) := by decide +kernel
theorem dX6_stir_52 : decode cX6_stir 52 = .ok (.iconst 5, 1) := by decide +kernel
theorem dX6_stir_53 : decode cX6_stir 53 = .ok (.iload_n 2, 1) := by decide +kernel
theorem dX6_stir_54 : decode cX6_stir 54 = .ok (.iadd, 1) := by decide +kernel
theorem dX6_stir_55 : decode cX6_stir 55 = .ok (.iload 4, 2) := by decide +kernel
theorem dX6_stir_57 : decode cX6_stir 57 = .ok (.iastore, 1) := by decide +kernel
theorem dX6_stir_58 : decode cX6_stir 58 = .ok (.aload_n 0, 1) := by decide +kernel
theorem dX6_stir_59 : decode cX6_stir 59 = .ok (.iload_n 3, 1) := by decide +kernel
theorem dX6_stir_60 : decode cX6_stir 60 = .ok (.invokevirtual 192, 3) := by decide +kernel
theorem dX6_stir_63 : decode cX6_stir 63 = .ok (.aload_n 0, 1) := by decide +kernel
theorem dX6_stir_64 : decode cX6_stir 64 = .ok (.getfield 31, 3) := by decide +kernel
theorem dX6_stir_67 : decode cX6_stir 67 = .ok (.bipush 17, 2) := by decide +kernel
theorem dX6_stir_69 : decode cX6_stir 69 = .ok (.iconst 4, 1) := by decide +kernel
theorem dX6_stir_70 : decode cX6_stir 70 = .ok (.iload_n 1, 1) := by decide +kernel
theorem dX6_stir_71 : decode cX6_stir 71 = .ok (.imul, 1) := by decide +kernel
theorem dX6_stir_72 : decode cX6_stir 72 = .ok (.iadd, 1) := by decide +kernel
theorem dX6_stir_73 : decode cX6_stir 73 = .ok (.iconst 3, 1) := by decide +kernel
theorem dX6_stir_74 : decode cX6_stir 74 = .ok (.iadd, 1) := by decide +kernel
theorem dX6_stir_75 : decode cX6_stir 75 = .ok (.iaload, 1) := by decide +kernel
theorem dX6_stir_76 : decode cX6_stir 76 = .ok (.iconst 1, 1) := by decide +kernel
theorem dX6_stir_77 : decode cX6_stir 77 = .ok (.if_icmp .ne 6, 3) := by decide +kernel
theorem dX6_stir_80 : decode cX6_stir 80 = .ok (.iload 4, 2) := by decide +kernel
theorem dX6_stir_82 : decode cX6_stir 82 = .ok (.ireturn, 1) := by decide +kernel
theorem dX6_stir_83 : decode cX6_stir 83 = .ok (.iinc 4 1, 3) := by decide +kernel
theorem dX6_stir_86 : decode cX6_stir 86 = .ok (.goto (-57), 3) := by decide +kernel
theorem dX6_stir_89 : decode cX6_stir 89 = .ok (.ldc 47, 2) := by decide +kernel
theorem dX6_stir_91 : decode cX6_stir 91 = .ok (.ireturn, 1) := by decide +kernel
theorem dX6_share_0 : decode cX6_share 0 = .ok (.aload_n 0, 1) := by decide +kernel
theorem dX6_share_1 : decode cX6_share 1 = .ok (.iload_n 1, 1) := by decide +kernel
theorem dX6_share_2 : decode cX6_share 2 = .ok (.invokevirtual 176, 3) := by decide +kernel
theorem dX6_share_5 : decode cX6_share 5 = .ok (.ifCond .eq 14, 3) := by decide +kernel
theorem dX6_share_8 : decode cX6_share 8 = .ok (.iload_n 2, 1) := by decide +kernel
theorem dX6_share_9 : decode cX6_share 9 = .ok (.iconst 0, 1) := by decide +kernel
theorem dX6_share_10 : decode cX6_share 10 = .ok (.sipush 999, 3) := by decide +kernel
theorem dX6_share_13 : decode cX6_share 13 = .ok (.invokestatic 53, 3) := by decide +kernel
theorem dX6_share_16 : decode cX6_share 16 = .ok (.ifCond .ne 6, 3) := by decide +kernel
theorem dX6_share_19 : decode cX6_share 19 = .ok (.ldc 61, 2) := by decide +kernel
theorem dX6_share_21 : decode cX6_share 21 = .ok (.ireturn, 1) := by decide +kernel
theorem dX6_share_22 : decode cX6_share 22 = .ok (.aload_n 0, 1) := by decide +kernel
theorem dX6_share_23 : decode cX6_share 23 = .ok (.getfield 25, 3) := by decide +kernel
theorem dX6_share_26 : decode cX6_share 26 = .ok (.invokestatic 196, 3) := by decide +kernel
theorem dX6_share_29 : decode cX6_share 29 = .ok (.istore_n 3, 1) := by decide +kernel
theorem dX6_share_30 : decode cX6_share 30 = .ok (.aload_n 0, 1) := by decide +kernel
theorem dX6_share_31 : decode cX6_share 31 = .ok (.getfield 25, 3) := by decide +kernel
theorem dX6_share_34 : decode cX6_share 34 = .ok (.bipush 17, 2) := by decide +kernel
theorem dX6_share_36 : decode cX6_share 36 = .ok (.iconst 4, 1) := by decide +kernel
theorem dX6_share_37 : decode cX6_share 37 = .ok (.iload_n 1, 1) := by decide +kernel
theorem dX6_share_38 : decode cX6_share 38 = .ok (.imul, 1) := by decide +kernel
theorem dX6_share_39 : decode cX6_share 39 = .ok (.iadd, 1) := by decide +kernel
theorem dX6_share_40 : decode cX6_share 40 = .ok (.iconst 1, 1) := by decide +kernel
theorem dX6_share_41 : decode cX6_share 41 = .ok (.iadd, 1) := by decide +kernel
theorem dX6_share_42 : decode cX6_share 42 = .ok (.iaload, 1) := by decide +kernel
theorem dX6_share_43 : decode cX6_share 43 = .ok (.istore 4, 2) := by decide +kernel
theorem dX6_share_45 : decode cX6_share 45 = .ok (.iload 4, 2) := by decide +kernel
theorem dX6_share_47 : decode cX6_share 47 = .ok (.ifCond .ne 5, 3) := by decide +kernel
theorem dX6_share_50 : decode cX6_share 50 = .ok (.iconst 0, 1) := by decide +kernel
theorem dX6_share_51 : decode cX6_share 51 = .ok (.ireturn, 1) := by decide +kernel
theorem dX6_share_52 : decode cX6_share 52 = .ok (.iload_n 2, 1) := by decide +kernel
theorem dX6_share_53 : decode cX6_share 53 = .ok (.istore 5, 2) := by decide +kernel
theorem dX6_share_55 : decode cX6_share 55 = .ok (.iconst 0, 1) := by decide +kernel
theorem dX6_share_56 : decode cX6_share 56 = .ok (.istore 6, 2) := by decide +kernel
theorem dX6_share_58 : decode cX6_share 58 = .ok (.iconst 0, 1) := by decide +kernel
theorem dX6_share_59 : decode cX6_share 59 = .ok (.istore 7, 2) := by decide +kernel
theorem dX6_share_61 : decode cX6_share 61 = .ok (.iload 7, 2) := by decide +kernel
theorem dX6_share_63 : decode cX6_share 63 = .ok (.aload_n 0, 1) := by decide +kernel
theorem dX6_share_64 : decode cX6_share 64 = .ok (.getfield 25, 3) := by decide +kernel
theorem dX6_share_67 : decode cX6_share 67 = .ok (.iconst 3, 1) := by decide +kernel
theorem dX6_share_68 : decode cX6_share 68 = .ok (.iaload, 1) := by decide +kernel
theorem dX6_share_69 : decode cX6_share 69 = .ok (.if_icmp .ge 65, 3) := by decide +kernel
theorem dX6_share_72 : decode cX6_share 72 = .ok (.iload 5, 2) := by decide +kernel
theorem dX6_share_74 : decode cX6_share 74 = .ok (.iload_n 2, 1) := by decide +kernel
theorem dX6_share_75 : decode cX6_share 75 = .ok (.aload_n 0, 1) := by decide +kernel
theorem dX6_share_76 : decode cX6_share 76 = .ok (.getfield 25, 3) := by decide +kernel
theorem dX6_share_79 : decode cX6_share 79 = .ok (.bipush 17, 2) := by decide +kernel
theorem dX6_share_81 : decode cX6_share 81 = .ok (.iconst 4, 1) := by decide +kernel
theorem dX6_share_82 : decode cX6_share 82 = .ok (.iload 7, 2) := by decide +kernel
theorem dX6_share_84 : decode cX6_share 84 = .ok (.imul, 1) := by decide +kernel
theorem dX6_share_85 : decode cX6_share 85 = .ok (.iadd, 1) := by decide +kernel
theorem dX6_share_86 : decode cX6_share 86 = .ok (.iconst 1, 1) := by decide +kernel
theorem dX6_share_87 : decode cX6_share 87 = .ok (.iadd, 1) := by decide +kernel
theorem dX6_share_88 : decode cX6_share 88 = .ok (.iaload, 1) := by decide +kernel
theorem dX6_share_89 : decode cX6_share 89 = .ok (.imul, 1) := by decide +kernel
theorem dX6_share_90 : decode cX6_share 90 = .ok (.iload_n 3, 1) := by decide +kernel
theorem dX6_share_91 : decode cX6_share 91 = .ok (.idiv, 1) := by decide +kernel
theorem dX6_share_92 : decode cX6_share 92 = .ok (.isub, 1) := by decide +kernel
theorem dX6_share_93 : decode cX6_share 93 = .ok (.istore 5, 2) := by decide +kernel
theorem dX6_share_95 : decode cX6_share 95 = .ok (.iload 6, 2) := by decide +kernel
theorem dX6_share_97 : decode cX6_share 97 = .ok (.iload 7, 2) := by decide +kernel
theorem dX6_share_99 : decode cX6_share 99 = .ok (.iload_n 1, 1) := by decide +kernel
theorem dX6_share_100 : decode cX6_share 100 = .ok (.if_icmp .ge 24, 3) := by decide +kernel
theorem dX6_share_103 : decode cX6_share 103 = .ok (.aload_n 0, 1) := by decide +kernel
theorem dX6_share_104 : decode cX6_share 104 = .ok (.getfield 25, 3) := by decide +kernel
theorem dX6_share_107 : decode cX6_share 107 = .ok (.bipush 17, 2) := by decide +kernel
theorem dX6_share_109 : decode cX6_share 109 = .ok (.iconst 4, 1) := by decide +kernel
theorem dX6_share_110 : decode cX6_share 110 = .ok (.iload 7, 2) := by decide +kernel
theorem dX6_share_112 : decode cX6_share 112 = .ok (.imul, 1) := by decide +kernel
theorem dX6_share_113 : decode cX6_share 113 = .ok (.iadd, 1) := by decide +kernel
theorem dX6_share_114 : decode cX6_share 114 = .ok (.iconst 1, 1) := by decide +kernel
theorem dX6_share_115 : decode cX6_share 115 = .ok (.iadd, 1) := by decide +kernel
theorem dX6_share_116 : decode cX6_share 116 = .ok (.iaload, 1) := by decide +kernel
theorem dX6_share_117 : decode cX6_share 117 = .ok (.ifCond .le 7, 3) := by decide +kernel
theorem dX6_share_120 : decode cX6_share 120 = .ok (.iconst 1, 1) := by decide +kernel
theorem dX6_share_121 : decode cX6_share 121 = .ok (.goto 4, 3) := by decide +kernel
theorem dX6_share_124 : decode cX6_share 124 = .ok (.iconst 0, 1) := by decide +kernel
theorem dX6_share_125 : decode cX6_share 125 = .ok (.iadd, 1) := by decide +kernel
theorem dX6_share_126 : decode cX6_share 126 = .ok (.istore 6, 2) := by decide +kernel
theorem dX6_share_128 : decode cX6_share 128 = .ok (.iinc 7 1, 3) := by decide +kernel
theorem dX6_share_131 : decode cX6_share 131 = .ok (.goto (-70), 3) := by decide +kernel
theorem dX6_share_134 : decode cX6_share 134 = .ok (.iload_n 2, 1) := by decide +kernel
theorem dX6_share_135 : decode cX6_share 135 = .ok (.iload 4, 2) := by decide +kernel
theorem dX6_share_137 : decode cX6_share 137 = .ok (.imul, 1) := by decide +kernel
theorem dX6_share_138 : decode cX6_share 138 = .ok (.iload_n 3, 1) := by decide +kernel
theorem dX6_share_139 : decode cX6_share 139 = .ok (.idiv, 1) := by decide +kernel
theorem dX6_share_140 : decode cX6_share 140 = .ok (.iload 6, 2) := by decide +kernel
theorem dX6_share_142 : decode cX6_share 142 = .ok (.iload 5, 2) := by decide +kernel
theorem dX6_share_144 : decode cX6_share 144 = .ok (.if_icmp .ge 7, 3) := by decide +kernel
theorem dX6_share_147 : decode cX6_share 147 = .ok (.iconst 1, 1) := by decide +kernel
theorem dX6_share_148 : decode cX6_share 148 = .ok (.goto 4, 3) := by decide +kernel
theorem dX6_share_151 : decode cX6_share 151 = .ok (.iconst 0, 1) := by decide +kernel
theorem dX6_share_152 : decode cX6_share 152 = .ok (.iadd, 1) := by decide +kernel
theorem dX6_share_153 : decode cX6_share 153 = .ok (.ireturn, 1) := by decide +kernel
theorem dX6_isSeen_0 : decode cX6_isSeen 0 = .ok (.aload_n 0, 1) := by decide +kernel
theorem dX6_isSeen_1 : decode cX6_isSeen 1 = .ok (.getfield 25, 3) := by decide +kernel
theorem dX6_isSeen_4 : decode cX6_isSeen 4 = .ok (.iconst 0, 1) := by decide +kernel
theorem dX6_isSeen_5 : decode cX6_isSeen 5 = .ok (.aload_n 0, 1) := by decide +kernel
theorem dX6_isSeen_6 : decode cX6_isSeen 6 = .ok (.getfield 31, 3) := by decide +kernel
theorem dX6_isSeen_9 : decode cX6_isSeen 9 = .ok (.iconst 0, 1) := by decide +kernel
theorem dX6_isSeen_10 : decode cX6_isSeen 10 = .ok (.invokestatic 135, 3) := by decide +kernel
theorem dX6_isSeen_13 : decode cX6_isSeen 13 = .ok (.aload_n 0, 1) := by decide +kernel
theorem dX6_isSeen_14 : decode cX6_isSeen 14 = .ok (.getfield 31, 3) := by decide +kernel
theorem dX6_isSeen_17 : decode cX6_isSeen 17 = .ok (.iload 4, 2) := by decide +kernel
theorem dX6_isSeen_19 : decode cX6_isSeen 19 = .ok (.iload 5, 2) := by decide +kernel
theorem dX6_isSeen_21 : decode cX6_isSeen 21 = .ok (.iastore, 1) := by decide +kernel
theorem dX6_isSeen_22 : decode cX6_isSeen 22 = .ok (.iconst 1, 1) := by decide +kernel
theorem dX6_isSeen_23 : decode cX6_isSeen 23 = .ok (.istore 6, 2) := by decide +kernel
theorem dX6_isSeen_25 : decode cX6_isSeen 25 = .ok (.iconst 0, 1) := by decide +kernel
theorem dX6_isSeen_26 : decode cX6_isSeen 26 = .ok (.istore 7, 2) := by decide +kernel
theorem dX6_isSeen_28 : decode cX6_isSeen 28 = .ok (.iload 7, 2) := by decide +kernel
theorem dX6_isSeen_30 : decode cX6_isSeen 30 = .ok (.iload_n 3, 1) := by decide +kernel
theorem dX6_isSeen_31 : decode cX6_isSeen 31 = .ok (.if_icmp .ge 64, 3) := by decide +kernel
theorem dX6_isSeen_34 : decode cX6_isSeen 34 = .ok (.aload_n 0, 1) := by decide +kernel
theorem dX6_isSeen_35 : decode cX6_isSeen 35 = .ok (.getfield 31, 3) := by decide +kernel
theorem dX6_isSeen_38 : decode cX6_isSeen 38 = .ok (.invokestatic 168, 3) := by decide +kernel
theorem dX6_isSeen_41 : decode cX6_isSeen 41 = .ok (.aload_n 0, 1) := by decide +kernel
theorem dX6_isSeen_42 : decode cX6_isSeen 42 = .ok (.getfield 31, 3) := by decide +kernel
theorem dX6_isSeen_45 : decode cX6_isSeen 45 = .ok (.iload_n 1, 1) := by decide +kernel
theorem dX6_isSeen_46 : decode cX6_isSeen 46 = .ok (.invokestatic 186, 3) := by decide +kernel
theorem dX6_isSeen_49 : decode cX6_isSeen 49 = .ok (.istore 8, 2) := by decide +kernel
theorem dX6_isSeen_51 : decode cX6_isSeen 51 = .ok (.iload 6, 2) := by decide +kernel
theorem dX6_isSeen_53 : decode cX6_isSeen 53 = .ok (.ifCond .eq 33, 3) := by decide +kernel
theorem dX6_isSeen_56 : decode cX6_isSeen 56 = .ok (.iload 8, 2) := by decide +kernel
theorem dX6_isSeen_58 : decode cX6_isSeen 58 = .ok (.ldc 47, 2) := by decide +kernel
theorem dX6_isSeen_60 : decode cX6_isSeen 60 = .ok (.if_icmp .ne 8, 3) := by decide +kernel
theorem dX6_isSeen_63 : decode cX6_isSeen 63 = .ok (.bipush 99, 2) := by decide +kernel
theorem dX6_isSeen_65 : decode cX6_isSeen 65 = .ok (.goto 5, 3) := by decide +kernel
theorem dX6_isSeen_68 : decode cX6_isSeen 68 = .ok (.iload 8, 2) := by decide +kernel
theorem dX6_isSeen_70 : decode cX6_isSeen 70 = .ok (.aload_n 0, 1) := by decide +kernel
theorem dX6_isSeen_71 : decode cX6_isSeen 71 = .ok (.getfield 16, 3) := by decide +kernel
theorem dX6_isSeen_74 : decode cX6_isSeen 74 = .ok (.iload_n 2, 1) := by decide +kernel
theorem dX6_isSeen_75 : decode cX6_isSeen 75 = .ok (.iload 7, 2) := by decide +kernel
theorem dX6_isSeen_77 : decode cX6_isSeen 77 = .ok (.iadd, 1) := by decide +kernel
theorem dX6_isSeen_78 : decode cX6_isSeen 78 = .ok (.iaload, 1) := by decide +kernel
theorem dX6_isSeen_79 : decode cX6_isSeen 79 = .ok (.if_icmp .ne 7, 3) := by decide +kernel
theorem dX6_isSeen_82 : decode cX6_isSeen 82 = .ok (.iconst 1, 1) := by decide +kernel
theorem dX6_isSeen_83 : decode cX6_isSeen 83 = .ok (.goto 4, 3) := by decide +kernel
theorem dX6_isSeen_86 : decode cX6_isSeen 86 = .ok (.iconst 0, 1) := by decide +kernel
theorem dX6_isSeen_87 : decode cX6_isSeen 87 = .ok (.istore 6, 2) := by decide +kernel
theorem dX6_isSeen_89 : decode cX6_isSeen 89 = .ok (.iinc 7 1, 3) := by decide +kernel
theorem dX6_isSeen_92 : decode cX6_isSeen 92 = .ok (.goto (-64), 3) := by decide +kernel
theorem dX6_isSeen_95 : decode cX6_isSeen 95 = .ok (.iload 6, 2) := by decide +kernel
theorem dX6_isSeen_97 : decode cX6_isSeen 97 = .ok (.ireturn, 1) := by decide +kernel
theorem dX6_fits_0 : decode cX6_fits 0 = .ok (.aload_n 0, 1) := by decide +kernel
theorem dX6_fits_1 : decode cX6_fits 1 = .ok (.iload_n 1, 1) := by decide +kernel
theorem dX6_fits_2 : decode cX6_fits 2 = .ok (.invokevirtual 176, 3) := by decide +kernel
theorem dX6_fits_5 : decode cX6_fits 5 = .ok (.ifCond .eq 31, 3) := by decide +kernel
theorem dX6_fits_8 : decode cX6_fits 8 = .ok (.iload_n 2, 1) := by decide +kernel
theorem dX6_fits_9 : decode cX6_fits 9 = .ok (.invokestatic 57, 3) := by decide +kernel
theorem dX6_fits_12 : decode cX6_fits 12 = .ok (.ifCond .eq 24, 3) := by decide +kernel
theorem dX6_fits_15 : decode cX6_fits 15 = .ok (.iload 4, 2) := by decide +kernel
theorem dX6_fits_17 : decode cX6_fits 17 = .ok (.iconst 1, 1) := by decide +kernel
theorem dX6_fits_18 : decode cX6_fits 18 = .ok (.bipush 12, 2) := by decide +kernel
theorem dX6_fits_20 : decode cX6_fits 20 = .ok (.invokestatic 53, 3) := by decide +kernel
theorem dX6_fits_23 : decode cX6_fits 23 = .ok (.ifCond .eq 13, 3) := by decide +kernel
theorem dX6_fits_26 : decode cX6_fits 26 = .ok (.iload 5, 2) := by decide +kernel
theorem dX6_fits_28 : decode cX6_fits 28 = .ok (.iconst 0, 1) := by decide +kernel
theorem dX6_fits_29 : decode cX6_fits 29 = .ok (.iconst 4, 1) := by decide +kernel
theorem dX6_fits_30 : decode cX6_fits 30 = .ok (.invokestatic 53, 3) := by decide +kernel
theorem dX6_fits_33 : decode cX6_fits 33 = .ok (.ifCond .ne 6, 3) := by decide +kernel
theorem dX6_fits_36 : decode cX6_fits 36 = .ok (.ldc 61, 2) := by decide +kernel
theorem dX6_fits_38 : decode cX6_fits 38 = .ok (.ireturn, 1) := by decide +kernel
theorem dX6_fits_39 : decode cX6_fits 39 = .ok (.aload_n 0, 1) := by decide +kernel
theorem dX6_fits_40 : decode cX6_fits 40 = .ok (.iload_n 1, 1) := by decide +kernel
theorem dX6_fits_41 : decode cX6_fits 41 = .ok (.invokevirtual 208, 3) := by decide +kernel
theorem dX6_fits_44 : decode cX6_fits 44 = .ok (.ifCond .eq 6, 3) := by decide +kernel
theorem dX6_fits_47 : decode cX6_fits 47 = .ok (.ldc 164, 2) := by decide +kernel
theorem dX6_fits_49 : decode cX6_fits 49 = .ok (.ireturn, 1) := by decide +kernel
theorem dX6_fits_50 : decode cX6_fits 50 = .ok (.aload_n 0, 1) := by decide +kernel
theorem dX6_fits_51 : decode cX6_fits 51 = .ok (.iload_n 2, 1) := by decide +kernel
theorem dX6_fits_52 : decode cX6_fits 52 = .ok (.invokevirtual 69, 3) := by decide +kernel
theorem dX6_fits_55 : decode cX6_fits 55 = .ok (.ifCond .eq 9, 3) := by decide +kernel
theorem dX6_fits_58 : decode cX6_fits 58 = .ok (.aload_n 0, 1) := by decide +kernel
theorem dX6_fits_59 : decode cX6_fits 59 = .ok (.iconst 1, 1) := by decide +kernel
theorem dX6_fits_60 : decode cX6_fits 60 = .ok (.invokevirtual 62, 3) := by decide +kernel
theorem dX6_fits_63 : decode cX6_fits 63 = .ok (.ireturn, 1) := by decide +kernel
theorem dX6_fits_64 : decode cX6_fits 64 = .ok (.aload_n 0, 1) := by decide +kernel
theorem dX6_fits_65 : decode cX6_fits 65 = .ok (.iload_n 2, 1) := by decide +kernel
theorem dX6_fits_66 : decode cX6_fits 66 = .ok (.iload_n 3, 1) := by decide +kernel
theorem dX6_fits_67 : decode cX6_fits 67 = .ok (.iload 4, 2) := by decide +kernel
theorem dX6_fits_69 : decode cX6_fits 69 = .ok (.invokevirtual 76, 3) := by decide +kernel
theorem dX6_fits_72 : decode cX6_fits 72 = .ok (.ifCond .ne 9, 3) := by decide +kernel
theorem dX6_fits_75 : decode cX6_fits 75 = .ok (.aload_n 0, 1) := by decide +kernel
theorem dX6_fits_76 : decode cX6_fits 76 = .ok (.iconst 2, 1) := by decide +kernel
theorem dX6_fits_77 : decode cX6_fits 77 = .ok (.invokevirtual 62, 3) := by decide +kernel
theorem dX6_fits_80 : decode cX6_fits 80 = .ok (.ireturn, 1) := by decide +kernel
theorem dX6_fits_81 : decode cX6_fits 81 = .ok (.bipush 17, 2) := by decide +kernel
theorem dX6_fits_83 : decode cX6_fits 83 = .ok (.iconst 4, 1) := by decide +kernel
theorem dX6_fits_84 : decode cX6_fits 84 = .ok (.iload_n 1, 1) := by decide +kernel
theorem dX6_fits_85 : decode cX6_fits 85 = .ok (.imul, 1) := by decide +kernel
theorem dX6_fits_86 : decode cX6_fits 86 = .ok (.iadd, 1) := by decide +kernel
theorem dX6_fits_87 : decode cX6_fits 87 = .ok (.istore 6, 2) := by decide +kernel
theorem dX6_fits_89 : decode cX6_fits 89 = .ok (.iload 5, 2) := by decide +kernel
theorem dX6_fits_91 : decode cX6_fits 91 = .ok (.ifCond .ne 8, 3) := by decide +kernel
theorem dX6_fits_94 : decode cX6_fits 94 = .ok (.iload 6, 2) := by decide +kernel
theorem dX6_fits_96 : decode cX6_fits 96 = .ok (.goto 30, 3) := by decide +kernel
theorem dX6_fits_99 : decode cX6_fits 99 = .ok (.iload 5, 2) := by decide +kernel
theorem dX6_fits_101 : decode cX6_fits 101 = .ok (.iconst 1, 1) := by decide +kernel
theorem dX6_fits_102 : decode cX6_fits 102 = .ok (.if_icmp .ne 10, 3) := by decide +kernel
theorem dX6_fits_105 : decode cX6_fits 105 = .ok (.iload 6, 2) := by decide +kernel
theorem dX6_fits_107 : decode cX6_fits 107 = .ok (.iconst 2, 1) := by decide +kernel
theorem dX6_fits_108 : decode cX6_fits 108 = .ok (.iadd, 1) := by decide +kernel
theorem dX6_fits_109 : decode cX6_fits 109 = .ok (.goto 17, 3) := by decide +kernel
theorem dX6_fits_112 : decode cX6_fits 112 = .ok (.iload 5, 2) := by decide +kernel
theorem dX6_fits_114 : decode cX6_fits 114 = .ok (.iconst 2, 1) := by decide +kernel
theorem dX6_fits_115 : decode cX6_fits 115 = .ok (.if_icmp .ne 7, 3) := by decide +kernel
theorem dX6_fits_118 : decode cX6_fits 118 = .ok (.iconst 0, 1) := by decide +kernel
theorem dX6_fits_119 : decode cX6_fits 119 = .ok (.goto 7, 3) := by decide +kernel
theorem dX6_fits_122 : decode cX6_fits 122 = .ok (.iload 6, 2) := by decide +kernel
theorem dX6_fits_124 : decode cX6_fits 124 = .ok (.iconst 1, 1) := by decide +kernel
theorem dX6_fits_125 : decode cX6_fits 125 = .ok (.iadd, 1) := by decide +kernel
theorem dX6_fits_126 : decode cX6_fits 126 = .ok (.istore 7, 2) := by decide +kernel
theorem dX6_fits_128 : decode cX6_fits 128 = .ok (.iload 5, 2) := by decide +kernel
theorem dX6_fits_130 : decode cX6_fits 130 = .ok (.ifCond .eq 9, 3) := by decide +kernel
theorem dX6_fits_133 : decode cX6_fits 133 = .ok (.iload 5, 2) := by decide +kernel
theorem dX6_fits_135 : decode cX6_fits 135 = .ok (.iconst 2, 1) := by decide +kernel
theorem dX6_fits_136 : decode cX6_fits 136 = .ok (.if_icmp .le 7, 3) := by decide +kernel
theorem dX6_fits_139 : decode cX6_fits 139 = .ok (.iconst 1, 1) := by decide +kernel
theorem dX6_fits_140 : decode cX6_fits 140 = .ok (.goto 4, 3) := by decide +kernel
theorem dX6_fits_143 : decode cX6_fits 143 = .ok (.iconst 0, 1) := by decide +kernel
theorem dX6_fits_144 : decode cX6_fits 144 = .ok (.istore 8, 2) := by decide +kernel
theorem dX6_fits_146 : decode cX6_fits 146 = .ok (.iload 5, 2) := by decide +kernel
theorem dX6_fits_148 : decode cX6_fits 148 = .ok (.ifCond .ne 7, 3) := by decide +kernel
theorem dX6_fits_151 : decode cX6_fits 151 = .ok (.iconst 5, 1) := by decide +kernel
theorem dX6_fits_152 : decode cX6_fits 152 = .ok (.goto 33, 3) := by decide +kernel
theorem dX6_fits_155 : decode cX6_fits 155 = .ok (.iload 5, 2) := by decide +kernel
theorem dX6_fits_157 : decode cX6_fits 157 = .ok (.iconst 1, 1) := by decide +kernel
theorem dX6_fits_158 : decode cX6_fits 158 = .ok (.if_icmp .ne 14, 3) := by decide +kernel
theorem dX6_fits_161 : decode cX6_fits 161 = .ok (.aload_n 0, 1) := by decide +kernel
theorem dX6_fits_162 : decode cX6_fits 162 = .ok (.getfield 25, 3) := by decide +kernel
theorem dX6_fits_165 : decode cX6_fits 165 = .ok (.iconst 2, 1) := by decide +kernel
theorem dX6_fits_166 : decode cX6_fits 166 = .ok (.iaload, 1) := by decide +kernel
theorem dX6_fits_167 : decode cX6_fits 167 = .ok (.iconst 1, 1) := by decide +kernel
theorem dX6_fits_168 : decode cX6_fits 168 = .ok (.isub, 1) := by decide +kernel
theorem dX6_fits_169 : decode cX6_fits 169 = .ok (.goto 16, 3) := by decide +kernel
theorem dX6_fits_172 : decode cX6_fits 172 = .ok (.iload 5, 2) := by decide +kernel
theorem dX6_fits_174 : decode cX6_fits 174 = .ok (.iconst 2, 1) := by decide +kernel
theorem dX6_fits_175 : decode cX6_fits 175 = .ok (.if_icmp .ne 8, 3) := by decide +kernel
theorem dX6_fits_178 : decode cX6_fits 178 = .ok (.bipush 15, 2) := by decide +kernel
theorem dX6_fits_180 : decode cX6_fits 180 = .ok (.goto 5, 3) := by decide +kernel
theorem dX6_fits_183 : decode cX6_fits 183 = .ok (.bipush 60, 2) := by decide +kernel
theorem dX6_fits_185 : decode cX6_fits 185 = .ok (.istore 9, 2) := by decide +kernel
theorem dX6_fits_187 : decode cX6_fits 187 = .ok (.iconst 0, 1) := by decide +kernel
theorem dX6_fits_188 : decode cX6_fits 188 = .ok (.istore 10, 2) := by decide +kernel
theorem dX6_fits_190 : decode cX6_fits 190 = .ok (.iconst 0, 1) := by decide +kernel
theorem dX6_fits_191 : decode cX6_fits 191 = .ok (.istore 11, 2) := by decide +kernel
theorem dX6_fits_193 : decode cX6_fits 193 = .ok (.ldc 47, 2) := by decide +kernel
theorem dX6_fits_195 : decode cX6_fits 195 = .ok (.istore 12, 2) := by decide +kernel
theorem dX6_fits_197 : decode cX6_fits 197 = .ok (.iload 9, 2) := by decide +kernel
theorem dX6_fits_199 : decode cX6_fits 199 = .ok (.istore 13, 2) := by decide +kernel
theorem dX6_fits_201 : decode cX6_fits 201 = .ok (.iload 13, 2) := by decide +kernel
theorem dX6_fits_203 : decode cX6_fits 203 = .ok (.iload 8, 2) := by decide +kernel
theorem dX6_fits_205 : decode cX6_fits 205 = .ok (.if_icmp .lt 55, 3) := by decide +kernel
theorem dX6_fits_208 : decode cX6_fits 208 = .ok (.aload_n 0, 1) := by decide +kernel
theorem dX6_fits_209 : decode cX6_fits 209 = .ok (.iload_n 1, 1) := by decide +kernel
theorem dX6_fits_210 : decode cX6_fits 210 = .ok (.bipush 40, 2) := by decide +kernel
theorem dX6_fits_212 : decode cX6_fits 212 = .ok (.iload_n 2, 1) := by decide +kernel
theorem dX6_fits_213 : decode cX6_fits 213 = .ok (.imul, 1) := by decide +kernel
theorem dX6_fits_214 : decode cX6_fits 214 = .ok (.iload_n 3, 1) := by decide +kernel
theorem dX6_fits_215 : decode cX6_fits 215 = .ok (.iadd, 1) := by decide +kernel
theorem dX6_fits_216 : decode cX6_fits 216 = .ok (.iload 4, 2) := by decide +kernel
theorem dX6_fits_218 : decode cX6_fits 218 = .ok (.iload 7, 2) := by decide +kernel
theorem dX6_fits_220 : decode cX6_fits 220 = .ok (.iload 13, 2) := by decide +kernel
theorem dX6_fits_222 : decode cX6_fits 222 = .ok (.invokevirtual 211, 3) := by decide +kernel
theorem dX6_fits_225 : decode cX6_fits 225 = .ok (.ifCond .eq 29, 3) := by decide +kernel
theorem dX6_fits_228 : decode cX6_fits 228 = .ok (.iload 10, 2) := by decide +kernel
theorem dX6_fits_230 : decode cX6_fits 230 = .ok (.iload 5, 2) := by decide +kernel
theorem dX6_fits_232 : decode cX6_fits 232 = .ok (.iconst 3, 1) := by decide +kernel
theorem dX6_fits_233 : decode cX6_fits 233 = .ok (.if_icmp .ge 10, 3) := by decide +kernel
theorem dX6_fits_236 : decode cX6_fits 236 = .ok (.iconst 1, 1) := by decide +kernel
theorem dX6_fits_237 : decode cX6_fits 237 = .ok (.iload 13, 2) := by decide +kernel
theorem dX6_fits_239 : decode cX6_fits 239 = .ok (.ishl, 1) := by decide +kernel
theorem dX6_fits_240 : decode cX6_fits 240 = .ok (.goto 4, 3) := by decide +kernel
theorem dX6_fits_243 : decode cX6_fits 243 = .ok (.iconst 0, 1) := by decide +kernel
theorem dX6_fits_244 : decode cX6_fits 244 = .ok (.ior, 1) := by decide +kernel
theorem dX6_fits_245 : decode cX6_fits 245 = .ok (.istore 10, 2) := by decide +kernel
theorem dX6_fits_247 : decode cX6_fits 247 = .ok (.iinc 11 1, 3) := by decide +kernel
theorem dX6_fits_250 : decode cX6_fits 250 = .ok (.iload 13, 2) := by decide +kernel
theorem dX6_fits_252 : decode cX6_fits 252 = .ok (.istore 12, 2) := by decide +kernel
theorem dX6_fits_254 : decode cX6_fits 254 = .ok (.iinc 13 (-1), 3) := by decide +kernel
theorem dX6_fits_257 : decode cX6_fits 257 = .ok (.goto (-56), 3) := by decide +kernel
theorem dX6_fits_260 : decode cX6_fits 260 = .ok (.aload_n 0, 1) := by decide +kernel
theorem dX6_fits_261 : decode cX6_fits 261 = .ok (.iload 5, 2) := by decide +kernel
theorem dX6_fits_263 : decode cX6_fits 263 = .ok (.iconst 3, 1) := by decide +kernel
theorem dX6_fits_264 : decode cX6_fits 264 = .ok (.if_icmp .ne 8, 3) := by decide +kernel
theorem dX6_fits_267 : decode cX6_fits 267 = .ok (.iload 11, 2) := by decide +kernel
theorem dX6_fits_269 : decode cX6_fits 269 = .ok (.goto 16, 3) := by decide +kernel
theorem dX6_fits_272 : decode cX6_fits 272 = .ok (.iload 5, 2) := by decide +kernel
theorem dX6_fits_274 : decode cX6_fits 274 = .ok (.iconst 4, 1) := by decide +kernel
theorem dX6_fits_275 : decode cX6_fits 275 = .ok (.if_icmp .ne 8, 3) := by decide +kernel
theorem dX6_fits_278 : decode cX6_fits 278 = .ok (.iload 12, 2) := by decide +kernel
theorem dX6_fits_280 : decode cX6_fits 280 = .ok (.goto 5, 3) := by decide +kernel
theorem dX6_fits_283 : decode cX6_fits 283 = .ok (.iload 10, 2) := by decide +kernel
theorem dX6_fits_285 : decode cX6_fits 285 = .ok (.invokevirtual 66, 3) := by decide +kernel
theorem dX6_fits_288 : decode cX6_fits 288 = .ok (.ireturn, 1) := by decide +kernel
theorem dX6_chance_0 : decode cX6_chance 0 = .ok (.aload_n 0, 1) := by decide +kernel
theorem dX6_chance_1 : decode cX6_chance 1 = .ok (.iload_n 1, 1) := by decide +kernel
theorem dX6_chance_2 : decode cX6_chance 2 = .ok (.invokevirtual 176, 3) := by decide +kernel
theorem dX6_chance_5 : decode cX6_chance 5 = .ok (.ifCond .eq 33, 3) := by decide +kernel
theorem dX6_chance_8 : decode cX6_chance 8 = .ok (.iload_n 2, 1) := by decide +kernel
theorem dX6_chance_9 : decode cX6_chance 9 = .ok (.iconst 0, 1) := by decide +kernel
theorem dX6_chance_10 : decode cX6_chance 10 = .ok (.bipush 8, 2) := by decide +kernel
theorem dX6_chance_12 : decode cX6_chance 12 = .ok (.invokestatic 53, 3) := by decide +kernel
theorem dX6_chance_15 : decode cX6_chance 15 = .ok (.ifCond .eq 23, 3) := by decide +kernel
theorem dX6_chance_18 : decode cX6_chance 18 = .ok (.iload_n 3, 1) := by decide +kernel
theorem dX6_chance_19 : decode cX6_chance 19 = .ok (.iconst 0, 1) := by decide +kernel
theorem dX6_chance_20 : decode cX6_chance 20 = .ok (.bipush 10, 2) := by decide +kernel
theorem dX6_chance_22 : decode cX6_chance 22 = .ok (.invokestatic 53, 3) := by decide +kernel
theorem dX6_chance_25 : decode cX6_chance 25 = .ok (.ifCond .eq 13, 3) := by decide +kernel
theorem dX6_chance_28 : decode cX6_chance 28 = .ok (.iload 4, 2) := by decide +kernel
theorem dX6_chance_30 : decode cX6_chance 30 = .ok (.iconst 0, 1) := by decide +kernel
theorem dX6_chance_31 : decode cX6_chance 31 = .ok (.iconst 1, 1) := by decide +kernel
theorem dX6_chance_32 : decode cX6_chance 32 = .ok (.invokestatic 53, 3) := by decide +kernel
theorem dX6_chance_35 : decode cX6_chance 35 = .ok (.ifCond .ne 6, 3) := by decide +kernel
theorem dX6_chance_38 : decode cX6_chance 38 = .ok (.ldc 61, 2) := by decide +kernel
theorem dX6_chance_40 : decode cX6_chance 40 = .ok (.ireturn, 1) := by decide +kernel
theorem dX6_chance_41 : decode cX6_chance 41 = .ok (.iconst 0, 1) := by decide +kernel
theorem dX6_chance_42 : decode cX6_chance 42 = .ok (.istore 5, 2) := by decide +kernel
theorem dX6_chance_44 : decode cX6_chance 44 = .ok (.iconst 1, 1) := by decide +kernel
theorem dX6_chance_45 : decode cX6_chance 45 = .ok (.istore 6, 2) := by decide +kernel
theorem dX6_chance_47 : decode cX6_chance 47 = .ok (.iconst 0, 1) := by decide +kernel
theorem dX6_chance_48 : decode cX6_chance 48 = .ok (.istore 7, 2) := by decide +kernel
theorem dX6_chance_50 : decode cX6_chance 50 = .ok (.iload 7, 2) := by decide +kernel
theorem dX6_chance_52 : decode cX6_chance 52 = .ok (.iload_n 2, 1) := by decide +kernel
theorem dX6_chance_53 : decode cX6_chance 53 = .ok (.if_icmp .ge 16, 3) := by decide +kernel
theorem dX6_chance_56 : decode cX6_chance 56 = .ok (.iload 6, 2) := by decide +kernel
theorem dX6_chance_58 : decode cX6_chance 58 = .ok (.bipush 10, 2) := by decide +kernel
theorem dX6_chance_60 : decode cX6_chance 60 = .ok (.imul, 1) := by decide +kernel
theorem dX6_chance_61 : decode cX6_chance 61 = .ok (.istore 6, 2) := by decide +kernel
theorem dX6_chance_63 : decode cX6_chance 63 = .ok (.iinc 7 1, 3) := by decide +kernel
theorem dX6_chance_66 : decode cX6_chance 66 = .ok (.goto (-16), 3) := by decide +kernel
theorem dX6_chance_69 : decode cX6_chance 69 = .ok (.iconst 0, 1) := by decide +kernel
theorem dX6_chance_70 : decode cX6_chance 70 = .ok (.istore 7, 2) := by decide +kernel
theorem dX6_chance_72 : decode cX6_chance 72 = .ok (.iload 7, 2) := by decide +kernel
theorem dX6_chance_74 : decode cX6_chance 74 = .ok (.iconst 1, 1) := by decide +kernel
theorem dX6_chance_75 : decode cX6_chance 75 = .ok (.iload_n 2, 1) := by decide +kernel
theorem dX6_chance_76 : decode cX6_chance 76 = .ok (.ishl, 1) := by decide +kernel
theorem dX6_chance_77 : decode cX6_chance 77 = .ok (.if_icmp .ge 120, 3) := by decide +kernel
theorem dX6_chance_80 : decode cX6_chance 80 = .ok (.iconst 1, 1) := by decide +kernel
theorem dX6_chance_81 : decode cX6_chance 81 = .ok (.istore 8, 2) := by decide +kernel
theorem dX6_chance_83 : decode cX6_chance 83 = .ok (.aload_n 0, 1) := by decide +kernel
theorem dX6_chance_84 : decode cX6_chance 84 = .ok (.getfield 25, 3) := by decide +kernel
theorem dX6_chance_87 : decode cX6_chance 87 = .ok (.iconst 0, 1) := by decide +kernel
theorem dX6_chance_88 : decode cX6_chance 88 = .ok (.aload_n 0, 1) := by decide +kernel
theorem dX6_chance_89 : decode cX6_chance 89 = .ok (.getfield 31, 3) := by decide +kernel
theorem dX6_chance_92 : decode cX6_chance 92 = .ok (.iconst 0, 1) := by decide +kernel
theorem dX6_chance_93 : decode cX6_chance 93 = .ok (.invokestatic 135, 3) := by decide +kernel
theorem dX6_chance_96 : decode cX6_chance 96 = .ok (.iconst 0, 1) := by decide +kernel
theorem dX6_chance_97 : decode cX6_chance 97 = .ok (.istore 9, 2) := by decide +kernel
theorem dX6_chance_99 : decode cX6_chance 99 = .ok (.iload 9, 2) := by decide +kernel
theorem dX6_chance_101 : decode cX6_chance 101 = .ok (.iload_n 2, 1) := by decide +kernel
theorem dX6_chance_102 : decode cX6_chance 102 = .ok (.if_icmp .ge 61, 3) := by decide +kernel
theorem dX6_chance_105 : decode cX6_chance 105 = .ok (.iload 8, 2) := by decide +kernel
theorem dX6_chance_107 : decode cX6_chance 107 = .ok (.iload 7, 2) := by decide +kernel
theorem dX6_chance_109 : decode cX6_chance 109 = .ok (.iload 9, 2) := by decide +kernel
theorem dX6_chance_111 : decode cX6_chance 111 = .ok (.invokestatic 142, 3) := by decide +kernel
theorem dX6_chance_114 : decode cX6_chance 114 = .ok (.ifCond .eq 7, 3) := by decide +kernel
theorem dX6_chance_117 : decode cX6_chance 117 = .ok (.iload_n 3, 1) := by decide +kernel
theorem dX6_chance_118 : decode cX6_chance 118 = .ok (.goto 7, 3) := by decide +kernel
theorem dX6_chance_121 : decode cX6_chance 121 = .ok (.bipush 10, 2) := by decide +kernel
theorem dX6_chance_123 : decode cX6_chance 123 = .ok (.iload_n 3, 1) := by decide +kernel
theorem dX6_chance_124 : decode cX6_chance 124 = .ok (.isub, 1) := by decide +kernel
theorem dX6_chance_125 : decode cX6_chance 125 = .ok (.imul, 1) := by decide +kernel
theorem dX6_chance_126 : decode cX6_chance 126 = .ok (.istore 8, 2) := by decide +kernel
theorem dX6_chance_128 : decode cX6_chance 128 = .ok (.aload_n 0, 1) := by decide +kernel
theorem dX6_chance_129 : decode cX6_chance 129 = .ok (.getfield 31, 3) := by decide +kernel
theorem dX6_chance_132 : decode cX6_chance 132 = .ok (.iconst 0, 1) := by decide +kernel
theorem dX6_chance_133 : decode cX6_chance 133 = .ok (.iload 7, 2) := by decide +kernel
theorem dX6_chance_135 : decode cX6_chance 135 = .ok (.iload 9, 2) := by decide +kernel
theorem dX6_chance_137 : decode cX6_chance 137 = .ok (.invokestatic 142, 3) := by decide +kernel
theorem dX6_chance_140 : decode cX6_chance 140 = .ok (.ifCond .eq 8, 3) := by decide +kernel
theorem dX6_chance_143 : decode cX6_chance 143 = .ok (.bipush 15, 2) := by decide +kernel
theorem dX6_chance_145 : decode cX6_chance 145 = .ok (.goto 4, 3) := by decide +kernel
theorem dX6_chance_148 : decode cX6_chance 148 = .ok (.iconst 0, 1) := by decide +kernel
theorem dX6_chance_149 : decode cX6_chance 149 = .ok (.iastore, 1) := by decide +kernel
theorem dX6_chance_150 : decode cX6_chance 150 = .ok (.aload_n 0, 1) := by decide +kernel
theorem dX6_chance_151 : decode cX6_chance 151 = .ok (.getfield 31, 3) := by decide +kernel
theorem dX6_chance_154 : decode cX6_chance 154 = .ok (.invokestatic 168, 3) := by decide +kernel
theorem dX6_chance_157 : decode cX6_chance 157 = .ok (.iinc 9 1, 3) := by decide +kernel
theorem dX6_chance_160 : decode cX6_chance 160 = .ok (.goto (-61), 3) := by decide +kernel
theorem dX6_chance_163 : decode cX6_chance 163 = .ok (.iload 5, 2) := by decide +kernel
theorem dX6_chance_165 : decode cX6_chance 165 = .ok (.aload_n 0, 1) := by decide +kernel
theorem dX6_chance_166 : decode cX6_chance 166 = .ok (.getfield 31, 3) := by decide +kernel
theorem dX6_chance_169 : decode cX6_chance 169 = .ok (.bipush 17, 2) := by decide +kernel
theorem dX6_chance_171 : decode cX6_chance 171 = .ok (.iconst 4, 1) := by decide +kernel
theorem dX6_chance_172 : decode cX6_chance 172 = .ok (.iload_n 1, 1) := by decide +kernel
theorem dX6_chance_173 : decode cX6_chance 173 = .ok (.imul, 1) := by decide +kernel
theorem dX6_chance_174 : decode cX6_chance 174 = .ok (.iadd, 1) := by decide +kernel
theorem dX6_chance_175 : decode cX6_chance 175 = .ok (.iconst 3, 1) := by decide +kernel
theorem dX6_chance_176 : decode cX6_chance 176 = .ok (.iadd, 1) := by decide +kernel
theorem dX6_chance_177 : decode cX6_chance 177 = .ok (.iaload, 1) := by decide +kernel
theorem dX6_chance_178 : decode cX6_chance 178 = .ok (.iconst 1, 1) := by decide +kernel
theorem dX6_chance_179 : decode cX6_chance 179 = .ok (.if_icmp .ne 8, 3) := by decide +kernel
theorem dX6_chance_182 : decode cX6_chance 182 = .ok (.iload 8, 2) := by decide +kernel
theorem dX6_chance_184 : decode cX6_chance 184 = .ok (.goto 4, 3) := by decide +kernel
theorem dX6_chance_187 : decode cX6_chance 187 = .ok (.iconst 0, 1) := by decide +kernel
theorem dX6_chance_188 : decode cX6_chance 188 = .ok (.iadd, 1) := by decide +kernel
theorem dX6_chance_189 : decode cX6_chance 189 = .ok (.istore 5, 2) := by decide +kernel
theorem dX6_chance_191 : decode cX6_chance 191 = .ok (.iinc 7 1, 3) := by decide +kernel
theorem dX6_chance_194 : decode cX6_chance 194 = .ok (.goto (-122), 3) := by decide +kernel
theorem dX6_chance_197 : decode cX6_chance 197 = .ok (.iload 5, 2) := by decide +kernel
theorem dX6_chance_199 : decode cX6_chance 199 = .ok (.istore 7, 2) := by decide +kernel
theorem dX6_chance_201 : decode cX6_chance 201 = .ok (.iload 6, 2) := by decide +kernel
theorem dX6_chance_203 : decode cX6_chance 203 = .ok (.istore 8, 2) := by decide +kernel
theorem dX6_chance_205 : decode cX6_chance 205 = .ok (.iload 8, 2) := by decide +kernel
theorem dX6_chance_207 : decode cX6_chance 207 = .ok (.ifCond .eq 21, 3) := by decide +kernel
theorem dX6_chance_210 : decode cX6_chance 210 = .ok (.iload 7, 2) := by decide +kernel
theorem dX6_chance_212 : decode cX6_chance 212 = .ok (.iload 8, 2) := by decide +kernel
theorem dX6_chance_214 : decode cX6_chance 214 = .ok (.irem, 1) := by decide +kernel
theorem dX6_chance_215 : decode cX6_chance 215 = .ok (.istore 9, 2) := by decide +kernel
theorem dX6_chance_217 : decode cX6_chance 217 = .ok (.iload 8, 2) := by decide +kernel
theorem dX6_chance_219 : decode cX6_chance 219 = .ok (.istore 7, 2) := by decide +kernel
theorem dX6_chance_221 : decode cX6_chance 221 = .ok (.iload 9, 2) := by decide +kernel
theorem dX6_chance_223 : decode cX6_chance 223 = .ok (.istore 8, 2) := by decide +kernel
theorem dX6_chance_225 : decode cX6_chance 225 = .ok (.goto (-20), 3) := by decide +kernel
theorem dX6_chance_228 : decode cX6_chance 228 = .ok (.iload 4, 2) := by decide +kernel
theorem dX6_chance_230 : decode cX6_chance 230 = .ok (.ifCond .ne 8, 3) := by decide +kernel
theorem dX6_chance_233 : decode cX6_chance 233 = .ok (.iload 5, 2) := by decide +kernel
theorem dX6_chance_235 : decode cX6_chance 235 = .ok (.goto 5, 3) := by decide +kernel
theorem dX6_chance_238 : decode cX6_chance 238 = .ok (.iload 6, 2) := by decide +kernel
theorem dX6_chance_240 : decode cX6_chance 240 = .ok (.iload 7, 2) := by decide +kernel
theorem dX6_chance_242 : decode cX6_chance 242 = .ok (.idiv, 1) := by decide +kernel
theorem dX6_chance_243 : decode cX6_chance 243 = .ok (.ireturn, 1) := by decide +kernel
theorem dX6_drawn_0 : decode cX6_drawn 0 = .ok (.aload_n 0, 1) := by decide +kernel
theorem dX6_drawn_1 : decode cX6_drawn 1 = .ok (.invokevirtual 161, 3) := by decide +kernel
theorem dX6_drawn_4 : decode cX6_drawn 4 = .ok (.ifCond .ne 6, 3) := by decide +kernel
theorem dX6_drawn_7 : decode cX6_drawn 7 = .ok (.ldc 164, 2) := by decide +kernel
theorem dX6_drawn_9 : decode cX6_drawn 9 = .ok (.ireturn, 1) := by decide +kernel
theorem dX6_drawn_10 : decode cX6_drawn 10 = .ok (.iload_n 1, 1) := by decide +kernel
theorem dX6_drawn_11 : decode cX6_drawn 11 = .ok (.iconst 0, 1) := by decide +kernel
theorem dX6_drawn_12 : decode cX6_drawn 12 = .ok (.bipush 60, 2) := by decide +kernel
theorem dX6_drawn_14 : decode cX6_drawn 14 = .ok (.invokestatic 53, 3) := by decide +kernel
theorem dX6_drawn_17 : decode cX6_drawn 17 = .ok (.ifCond .eq 22, 3) := by decide +kernel
theorem dX6_drawn_20 : decode cX6_drawn 20 = .ok (.iload_n 2, 1) := by decide +kernel
theorem dX6_drawn_21 : decode cX6_drawn 21 = .ok (.iconst 1, 1) := by decide +kernel
theorem dX6_drawn_22 : decode cX6_drawn 22 = .ok (.ldc 215, 2) := by decide +kernel
theorem dX6_drawn_24 : decode cX6_drawn 24 = .ok (.invokestatic 53, 3) := by decide +kernel
theorem dX6_drawn_27 : decode cX6_drawn 27 = .ok (.ifCond .eq 12, 3) := by decide +kernel
theorem dX6_drawn_30 : decode cX6_drawn 30 = .ok (.iload_n 3, 1) := by decide +kernel
theorem dX6_drawn_31 : decode cX6_drawn 31 = .ok (.iconst 0, 1) := by decide +kernel
theorem dX6_drawn_32 : decode cX6_drawn 32 = .ok (.iconst 1, 1) := by decide +kernel
theorem dX6_drawn_33 : decode cX6_drawn 33 = .ok (.invokestatic 53, 3) := by decide +kernel
theorem dX6_drawn_36 : decode cX6_drawn 36 = .ok (.ifCond .ne 6, 3) := by decide +kernel
theorem dX6_drawn_39 : decode cX6_drawn 39 = .ok (.ldc 61, 2) := by decide +kernel
theorem dX6_drawn_41 : decode cX6_drawn 41 = .ok (.ireturn, 1) := by decide +kernel
theorem dX6_drawn_42 : decode cX6_drawn 42 = .ok (.aload_n 0, 1) := by decide +kernel
theorem dX6_drawn_43 : decode cX6_drawn 43 = .ok (.getfield 25, 3) := by decide +kernel
theorem dX6_drawn_46 : decode cX6_drawn 46 = .ok (.iconst 0, 1) := by decide +kernel
theorem dX6_drawn_47 : decode cX6_drawn 47 = .ok (.aload_n 0, 1) := by decide +kernel
theorem dX6_drawn_48 : decode cX6_drawn 48 = .ok (.getfield 31, 3) := by decide +kernel
theorem dX6_drawn_51 : decode cX6_drawn 51 = .ok (.iconst 0, 1) := by decide +kernel
theorem dX6_drawn_52 : decode cX6_drawn 52 = .ok (.invokestatic 135, 3) := by decide +kernel
theorem dX6_drawn_55 : decode cX6_drawn 55 = .ok (.iload_n 2, 1) := by decide +kernel
theorem dX6_drawn_56 : decode cX6_drawn 56 = .ok (.i2l, 1) := by decide +kernel
theorem dX6_drawn_57 : decode cX6_drawn 57 = .ok (.lstore 4, 2) := by decide +kernel
theorem dX6_drawn_59 : decode cX6_drawn 59 = .ok (.iconst 0, 1) := by decide +kernel
theorem dX6_drawn_60 : decode cX6_drawn 60 = .ok (.istore 6, 2) := by decide +kernel
theorem dX6_drawn_62 : decode cX6_drawn 62 = .ok (.iconst 0, 1) := by decide +kernel
theorem dX6_drawn_63 : decode cX6_drawn 63 = .ok (.istore 7, 2) := by decide +kernel
theorem dX6_drawn_65 : decode cX6_drawn 65 = .ok (.iload 7, 2) := by decide +kernel
theorem dX6_drawn_67 : decode cX6_drawn 67 = .ok (.iload_n 1, 1) := by decide +kernel
theorem dX6_drawn_68 : decode cX6_drawn 68 = .ok (.if_icmp .ge 113, 3) := by decide +kernel
theorem dX6_drawn_71 : decode cX6_drawn 71 = .ok (.lload 4, 2) := by decide +kernel
theorem dX6_drawn_73 : decode cX6_drawn 73 = .ok (.ldc2_w 216, 3) := by decide +kernel
theorem dX6_drawn_76 : decode cX6_drawn 76 = .ok (.lmul, 1) := by decide +kernel
theorem dX6_drawn_77 : decode cX6_drawn 77 = .ok (.ldc2_w 218, 3) := by decide +kernel
theorem dX6_drawn_80 : decode cX6_drawn 80 = .ok (.lrem, 1) := by decide +kernel
theorem dX6_drawn_81 : decode cX6_drawn 81 = .ok (.lstore 4, 2) := by decide +kernel
theorem dX6_drawn_83 : decode cX6_drawn 83 = .ok (.aload_n 0, 1) := by decide +kernel
theorem dX6_drawn_84 : decode cX6_drawn 84 = .ok (.getfield 31, 3) := by decide +kernel
theorem dX6_drawn_87 : decode cX6_drawn 87 = .ok (.iconst 0, 1) := by decide +kernel
theorem dX6_drawn_88 : decode cX6_drawn 88 = .ok (.lload 4, 2) := by decide +kernel
theorem dX6_drawn_90 : decode cX6_drawn 90 = .ok (.ldc2_w 220, 3) := by decide +kernel
theorem dX6_drawn_93 : decode cX6_drawn 93 = .ok (.lrem, 1) := by decide +kernel
theorem dX6_drawn_94 : decode cX6_drawn 94 = .ok (.l2i, 1) := by decide +kernel
theorem dX6_drawn_95 : decode cX6_drawn 95 = .ok (.iastore, 1) := by decide +kernel
theorem dX6_drawn_96 : decode cX6_drawn 96 = .ok (.aload_n 0, 1) := by decide +kernel
theorem dX6_drawn_97 : decode cX6_drawn 97 = .ok (.getfield 25, 3) := by decide +kernel
theorem dX6_drawn_100 : decode cX6_drawn 100 = .ok (.iconst 3, 1) := by decide +kernel
theorem dX6_drawn_101 : decode cX6_drawn 101 = .ok (.iaload, 1) := by decide +kernel
theorem dX6_drawn_102 : decode cX6_drawn 102 = .ok (.ifCond .le 66, 3) := by decide +kernel
theorem dX6_drawn_105 : decode cX6_drawn 105 = .ok (.lload 4, 2) := by decide +kernel
theorem dX6_drawn_107 : decode cX6_drawn 107 = .ok (.aload_n 0, 1) := by decide +kernel
theorem dX6_drawn_108 : decode cX6_drawn 108 = .ok (.getfield 25, 3) := by decide +kernel
theorem dX6_drawn_111 : decode cX6_drawn 111 = .ok (.iconst 3, 1) := by decide +kernel
theorem dX6_drawn_112 : decode cX6_drawn 112 = .ok (.iaload, 1) := by decide +kernel
theorem dX6_drawn_113 : decode cX6_drawn 113 = .ok (.i2l, 1) := by decide +kernel
theorem dX6_drawn_114 : decode cX6_drawn 114 = .ok (.lrem, 1) := by decide +kernel
theorem dX6_drawn_115 : decode cX6_drawn 115 = .ok (.l2i, 1) := by decide +kernel
theorem dX6_drawn_116 : decode cX6_drawn 116 = .ok (.istore 8, 2) := by decide +kernel
theorem dX6_drawn_118 : decode cX6_drawn 118 = .ok (.aload_n 0, 1) := by decide +kernel
theorem dX6_drawn_119 : decode cX6_drawn 119 = .ok (.getfield 31, 3) := by decide +kernel
theorem dX6_drawn_122 : decode cX6_drawn 122 = .ok (.bipush 17, 2) := by decide +kernel
theorem dX6_drawn_124 : decode cX6_drawn 124 = .ok (.iconst 4, 1) := by decide +kernel
theorem dX6_drawn_125 : decode cX6_drawn 125 = .ok (.iload 8, 2) := by decide +kernel
theorem dX6_drawn_127 : decode cX6_drawn 127 = .ok (.imul, 1) := by decide +kernel
theorem dX6_drawn_128 : decode cX6_drawn 128 = .ok (.iadd, 1) := by decide +kernel
theorem dX6_drawn_129 : decode cX6_drawn 129 = .ok (.iconst 3, 1) := by decide +kernel
theorem dX6_drawn_130 : decode cX6_drawn 130 = .ok (.iadd, 1) := by decide +kernel
theorem dX6_drawn_131 : decode cX6_drawn 131 = .ok (.iaload, 1) := by decide +kernel
theorem dX6_drawn_132 : decode cX6_drawn 132 = .ok (.iconst 1, 1) := by decide +kernel
theorem dX6_drawn_133 : decode cX6_drawn 133 = .ok (.if_icmp .ne 35, 3) := by decide +kernel
theorem dX6_drawn_136 : decode cX6_drawn 136 = .ok (.aload_n 0, 1) := by decide +kernel
theorem dX6_drawn_137 : decode cX6_drawn 137 = .ok (.getfield 31, 3) := by decide +kernel
theorem dX6_drawn_140 : decode cX6_drawn 140 = .ok (.iload 8, 2) := by decide +kernel
theorem dX6_drawn_142 : decode cX6_drawn 142 = .ok (.lload 4, 2) := by decide +kernel
theorem dX6_drawn_144 : decode cX6_drawn 144 = .ok (.ldc2_w 222, 3) := by decide +kernel
theorem dX6_drawn_147 : decode cX6_drawn 147 = .ok (.lrem, 1) := by decide +kernel
theorem dX6_drawn_148 : decode cX6_drawn 148 = .ok (.l2i, 1) := by decide +kernel
theorem dX6_drawn_149 : decode cX6_drawn 149 = .ok (.iconst 1, 1) := by decide +kernel
theorem dX6_drawn_150 : decode cX6_drawn 150 = .ok (.iadd, 1) := by decide +kernel
theorem dX6_drawn_151 : decode cX6_drawn 151 = .ok (.lload 4, 2) := by decide +kernel
theorem dX6_drawn_153 : decode cX6_drawn 153 = .ok (.aload_n 0, 1) := by decide +kernel
theorem dX6_drawn_154 : decode cX6_drawn 154 = .ok (.getfield 25, 3) := by decide +kernel
theorem dX6_drawn_157 : decode cX6_drawn 157 = .ok (.iconst 2, 1) := by decide +kernel
theorem dX6_drawn_158 : decode cX6_drawn 158 = .ok (.iaload, 1) := by decide +kernel
theorem dX6_drawn_159 : decode cX6_drawn 159 = .ok (.i2l, 1) := by decide +kernel
theorem dX6_drawn_160 : decode cX6_drawn 160 = .ok (.lrem, 1) := by decide +kernel
theorem dX6_drawn_161 : decode cX6_drawn 161 = .ok (.l2i, 1) := by decide +kernel
theorem dX6_drawn_162 : decode cX6_drawn 162 = .ok (.invokestatic 182, 3) := by decide +kernel
theorem dX6_drawn_165 : decode cX6_drawn 165 = .ok (.iinc 6 1, 3) := by decide +kernel
theorem dX6_drawn_168 : decode cX6_drawn 168 = .ok (.aload_n 0, 1) := by decide +kernel
theorem dX6_drawn_169 : decode cX6_drawn 169 = .ok (.getfield 31, 3) := by decide +kernel
theorem dX6_drawn_172 : decode cX6_drawn 172 = .ok (.invokestatic 168, 3) := by decide +kernel
theorem dX6_drawn_175 : decode cX6_drawn 175 = .ok (.iinc 7 1, 3) := by decide +kernel
theorem dX6_drawn_178 : decode cX6_drawn 178 = .ok (.goto (-113), 3) := by decide +kernel
theorem dX6_drawn_181 : decode cX6_drawn 181 = .ok (.iload_n 3, 1) := by decide +kernel
theorem dX6_drawn_182 : decode cX6_drawn 182 = .ok (.ifCond .ne 13, 3) := by decide +kernel
theorem dX6_drawn_185 : decode cX6_drawn 185 = .ok (.aload_n 0, 1) := by decide +kernel
theorem dX6_drawn_186 : decode cX6_drawn 186 = .ok (.getfield 31, 3) := by decide +kernel
theorem dX6_drawn_189 : decode cX6_drawn 189 = .ok (.invokestatic 196, 3) := by decide +kernel
theorem dX6_drawn_192 : decode cX6_drawn 192 = .ok (.goto 5, 3) := by decide +kernel
theorem dX6_drawn_195 : decode cX6_drawn 195 = .ok (.iload 6, 2) := by decide +kernel
theorem dX6_drawn_197 : decode cX6_drawn 197 = .ok (.ireturn, 1) := by decide +kernel
theorem dX6_image_0 : decode cX6_image 0 = .ok (.iload_n 1, 1) := by decide +kernel
theorem dX6_image_1 : decode cX6_image 1 = .ok (.iconst 0, 1) := by decide +kernel
theorem dX6_image_2 : decode cX6_image 2 = .ok (.iconst 1, 1) := by decide +kernel
theorem dX6_image_3 : decode cX6_image 3 = .ok (.invokestatic 53, 3) := by decide +kernel
theorem dX6_image_6 : decode cX6_image 6 = .ok (.ifCond .ne 6, 3) := by decide +kernel
theorem dX6_image_9 : decode cX6_image 9 = .ok (.ldc 61, 2) := by decide +kernel
theorem dX6_image_11 : decode cX6_image 11 = .ok (.ireturn, 1) := by decide +kernel
theorem dX6_image_12 : decode cX6_image 12 = .ok (.aload_n 0, 1) := by decide +kernel
theorem dX6_image_13 : decode cX6_image 13 = .ok (.invokevirtual 161, 3) := by decide +kernel
theorem dX6_image_16 : decode cX6_image 16 = .ok (.ifCond .ne 6, 3) := by decide +kernel
theorem dX6_image_19 : decode cX6_image 19 = .ok (.ldc 164, 2) := by decide +kernel
theorem dX6_image_21 : decode cX6_image 21 = .ok (.ireturn, 1) := by decide +kernel
theorem dX6_image_22 : decode cX6_image 22 = .ok (.aload_n 0, 1) := by decide +kernel
theorem dX6_image_23 : decode cX6_image 23 = .ok (.getfield 25, 3) := by decide +kernel
theorem dX6_image_26 : decode cX6_image 26 = .ok (.iconst 0, 1) := by decide +kernel
theorem dX6_image_27 : decode cX6_image 27 = .ok (.aload_n 0, 1) := by decide +kernel
theorem dX6_image_28 : decode cX6_image 28 = .ok (.getfield 37, 3) := by decide +kernel
theorem dX6_image_31 : decode cX6_image 31 = .ok (.bipush 45, 2) := by decide +kernel
theorem dX6_image_33 : decode cX6_image 33 = .ok (.iload_n 1, 1) := by decide +kernel
theorem dX6_image_34 : decode cX6_image 34 = .ok (.imul, 1) := by decide +kernel
theorem dX6_image_35 : decode cX6_image 35 = .ok (.invokestatic 135, 3) := by decide +kernel
theorem dX6_image_38 : decode cX6_image 38 = .ok (.aload_n 0, 1) := by decide +kernel
theorem dX6_image_39 : decode cX6_image 39 = .ok (.getfield 40, 3) := by decide +kernel
theorem dX6_image_42 : decode cX6_image 42 = .ok (.iload_n 1, 1) := by decide +kernel
theorem dX6_image_43 : decode cX6_image 43 = .ok (.iconst 1, 1) := by decide +kernel
theorem dX6_image_44 : decode cX6_image 44 = .ok (.bastore, 1) := by decide +kernel
theorem dX6_image_45 : decode cX6_image 45 = .ok (.iconst 1, 1) := by decide +kernel
theorem dX6_image_46 : decode cX6_image 46 = .ok (.ireturn, 1) := by decide +kernel
theorem dX6_restore_0 : decode cX6_restore 0 = .ok (.iload_n 1, 1) := by decide +kernel
theorem dX6_restore_1 : decode cX6_restore 1 = .ok (.iconst 0, 1) := by decide +kernel
theorem dX6_restore_2 : decode cX6_restore 2 = .ok (.iconst 1, 1) := by decide +kernel
theorem dX6_restore_3 : decode cX6_restore 3 = .ok (.invokestatic 53, 3) := by decide +kernel
theorem dX6_restore_6 : decode cX6_restore 6 = .ok (.ifCond .ne 6, 3) := by decide +kernel
theorem dX6_restore_9 : decode cX6_restore 9 = .ok (.ldc 61, 2) := by decide +kernel
theorem dX6_restore_11 : decode cX6_restore 11 = .ok (.ireturn, 1) := by decide +kernel
theorem dX6_restore_12 : decode cX6_restore 12 = .ok (.aload_n 0, 1) := by decide +kernel
theorem dX6_restore_13 : decode cX6_restore 13 = .ok (.getfield 40, 3) := by decide +kernel
theorem dX6_restore_16 : decode cX6_restore 16 = .ok (.iload_n 1, 1) := by decide +kernel
theorem dX6_restore_17 : decode cX6_restore 17 = .ok (.baload, 1) := by decide +kernel
theorem dX6_restore_18 : decode cX6_restore 18 = .ok (.ifCond .ne 6, 3) := by decide +kernel
theorem dX6_restore_21 : decode cX6_restore 21 = .ok (.ldc 164, 2) := by decide +kernel
theorem dX6_restore_23 : decode cX6_restore 23 = .ok (.ireturn, 1) := by decide +kernel
theorem dX6_restore_24 : decode cX6_restore 24 = .ok (.aload_n 0, 1) := by decide +kernel
theorem dX6_restore_25 : decode cX6_restore 25 = .ok (.getfield 37, 3) := by decide +kernel
theorem dX6_restore_28 : decode cX6_restore 28 = .ok (.bipush 45, 2) := by decide +kernel
theorem dX6_restore_30 : decode cX6_restore 30 = .ok (.iload_n 1, 1) := by decide +kernel
theorem dX6_restore_31 : decode cX6_restore 31 = .ok (.imul, 1) := by decide +kernel
theorem dX6_restore_32 : decode cX6_restore 32 = .ok (.aload_n 0, 1) := by decide +kernel
theorem dX6_restore_33 : decode cX6_restore 33 = .ok (.getfield 25, 3) := by decide +kernel
theorem dX6_restore_36 : decode cX6_restore 36 = .ok (.iconst 0, 1) := by decide +kernel
theorem dX6_restore_37 : decode cX6_restore 37 = .ok (.invokestatic 135, 3) := by decide +kernel
theorem dX6_restore_40 : decode cX6_restore 40 = .ok (.aload_n 0, 1) := by decide +kernel
theorem dX6_restore_41 : decode cX6_restore 41 = .ok (.iconst 0, 1) := by decide +kernel
theorem dX6_restore_42 : decode cX6_restore 42 = .ok (.putfield 139, 3) := by decide +kernel
theorem dX6_restore_45 : decode cX6_restore 45 = .ok (.iconst 1, 1) := by decide +kernel
theorem dX6_restore_46 : decode cX6_restore 46 = .ok (.ireturn, 1) := by decide +kernel
theorem dX6_kindIn_0 : decode cX6_kindIn 0 = .ok (.aload_n 0, 1) := by decide +kernel
theorem dX6_kindIn_1 : decode cX6_kindIn 1 = .ok (.getfield 25, 3) := by decide +kernel
theorem dX6_kindIn_4 : decode cX6_kindIn 4 = .ok (.bipush 17, 2) := by decide +kernel
theorem dX6_kindIn_6 : decode cX6_kindIn 6 = .ok (.iconst 4, 1) := by decide +kernel
theorem dX6_kindIn_7 : decode cX6_kindIn 7 = .ok (.iload_n 1, 1) := by decide +kernel
theorem dX6_kindIn_8 : decode cX6_kindIn 8 = .ok (.imul, 1) := by decide +kernel
theorem dX6_kindIn_9 : decode cX6_kindIn 9 = .ok (.iadd, 1) := by decide +kernel
theorem dX6_kindIn_10 : decode cX6_kindIn 10 = .ok (.iaload, 1) := by decide +kernel
theorem dX6_kindIn_11 : decode cX6_kindIn 11 = .ok (.ireturn, 1) := by decide +kernel
theorem dX6_kind_0 : decode cX6_kind 0 = .ok (.aload_n 0, 1) := by decide +kernel
theorem dX6_kind_1 : decode cX6_kind 1 = .ok (.iload_n 1, 1) := by decide +kernel
theorem dX6_kind_2 : decode cX6_kind 2 = .ok (.invokevirtual 176, 3) := by decide +kernel
theorem dX6_kind_5 : decode cX6_kind 5 = .ok (.ifCond .eq 11, 3) := by decide +kernel
theorem dX6_kind_8 : decode cX6_kind 8 = .ok (.aload_n 0, 1) := by decide +kernel
theorem dX6_kind_9 : decode cX6_kind 9 = .ok (.iload_n 1, 1) := by decide +kernel
theorem dX6_kind_10 : decode cX6_kind 10 = .ok (.invokevirtual 224, 3) := by decide +kernel
theorem dX6_kind_13 : decode cX6_kind 13 = .ok (.goto 5, 3) := by decide +kernel
theorem dX6_kind_16 : decode cX6_kind 16 = .ok (.ldc 61, 2) := by decide +kernel
theorem dX6_kind_18 : decode cX6_kind 18 = .ok (.ireturn, 1) := by decide +kernel
theorem dX6_as_0 : decode cX6_as 0 = .ok (.aload_n 0, 1) := by decide +kernel
theorem dX6_as_1 : decode cX6_as 1 = .ok (.iload_n 1, 1) := by decide +kernel
theorem dX6_as_2 : decode cX6_as 2 = .ok (.invokevirtual 176, 3) := by decide +kernel
theorem dX6_as_5 : decode cX6_as 5 = .ok (.ifCond .eq 12, 3) := by decide +kernel
theorem dX6_as_8 : decode cX6_as 8 = .ok (.iload_n 2, 1) := by decide +kernel
theorem dX6_as_9 : decode cX6_as 9 = .ok (.iconst 0, 1) := by decide +kernel
theorem dX6_as_10 : decode cX6_as 10 = .ok (.iconst 5, 1) := by decide +kernel
theorem dX6_as_11 : decode cX6_as 11 = .ok (.invokestatic 53, 3) := by decide +kernel
theorem dX6_as_14 : decode cX6_as 14 = .ok (.ifCond .ne 6, 3) := by decide +kernel
theorem dX6_as_17 : decode cX6_as 17 = .ok (.ldc 61, 2) := by decide +kernel
theorem dX6_as_19 : decode cX6_as 19 = .ok (.ireturn, 1) := by decide +kernel
theorem dX6_as_20 : decode cX6_as 20 = .ok (.aload_n 0, 1) := by decide +kernel
theorem dX6_as_21 : decode cX6_as 21 = .ok (.iload_n 1, 1) := by decide +kernel
theorem dX6_as_22 : decode cX6_as 22 = .ok (.invokevirtual 224, 3) := by decide +kernel
theorem dX6_as_25 : decode cX6_as 25 = .ok (.istore_n 3, 1) := by decide +kernel
theorem dX6_as_26 : decode cX6_as 26 = .ok (.iload_n 2, 1) := by decide +kernel
theorem dX6_as_27 : decode cX6_as 27 = .ok (.ifCond .eq 28, 3) := by decide +kernel
theorem dX6_as_30 : decode cX6_as 30 = .ok (.iload_n 2, 1) := by decide +kernel
theorem dX6_as_31 : decode cX6_as 31 = .ok (.iload_n 3, 1) := by decide +kernel
theorem dX6_as_32 : decode cX6_as 32 = .ok (.if_icmp .eq 23, 3) := by decide +kernel
theorem dX6_as_35 : decode cX6_as 35 = .ok (.iload_n 2, 1) := by decide +kernel
theorem dX6_as_36 : decode cX6_as 36 = .ok (.iconst 1, 1) := by decide +kernel
theorem dX6_as_37 : decode cX6_as 37 = .ok (.if_icmp .ne 8, 3) := by decide +kernel
theorem dX6_as_40 : decode cX6_as 40 = .ok (.iload_n 3, 1) := by decide +kernel
theorem dX6_as_41 : decode cX6_as 41 = .ok (.iconst 4, 1) := by decide +kernel
theorem dX6_as_42 : decode cX6_as 42 = .ok (.if_icmp .lt 13, 3) := by decide +kernel
theorem dX6_as_45 : decode cX6_as 45 = .ok (.iload_n 2, 1) := by decide +kernel
theorem dX6_as_46 : decode cX6_as 46 = .ok (.iconst 4, 1) := by decide +kernel
theorem dX6_as_47 : decode cX6_as 47 = .ok (.if_icmp .ne 12, 3) := by decide +kernel
theorem dX6_as_50 : decode cX6_as 50 = .ok (.iload_n 3, 1) := by decide +kernel
theorem dX6_as_51 : decode cX6_as 51 = .ok (.iconst 5, 1) := by decide +kernel
theorem dX6_as_52 : decode cX6_as 52 = .ok (.if_icmp .ne 7, 3) := by decide +kernel
theorem dX6_as_55 : decode cX6_as 55 = .ok (.iconst 1, 1) := by decide +kernel
theorem dX6_as_56 : decode cX6_as 56 = .ok (.goto 4, 3) := by decide +kernel
theorem dX6_as_59 : decode cX6_as 59 = .ok (.iconst 0, 1) := by decide +kernel
theorem dX6_as_60 : decode cX6_as 60 = .ok (.istore 4, 2) := by decide +kernel
theorem dX6_as_62 : decode cX6_as 62 = .ok (.iload 4, 2) := by decide +kernel
theorem dX6_as_64 : decode cX6_as 64 = .ok (.ifCond .eq 11, 3) := by decide +kernel
theorem dX6_as_67 : decode cX6_as 67 = .ok (.aload_n 0, 1) := by decide +kernel
theorem dX6_as_68 : decode cX6_as 68 = .ok (.iload_n 1, 1) := by decide +kernel
theorem dX6_as_69 : decode cX6_as 69 = .ok (.invokevirtual 66, 3) := by decide +kernel
theorem dX6_as_72 : decode cX6_as 72 = .ok (.goto 8, 3) := by decide +kernel
theorem dX6_as_75 : decode cX6_as 75 = .ok (.aload_n 0, 1) := by decide +kernel
theorem dX6_as_76 : decode cX6_as 76 = .ok (.iconst 3, 1) := by decide +kernel
theorem dX6_as_77 : decode cX6_as 77 = .ok (.invokevirtual 62, 3) := by decide +kernel
theorem dX6_as_80 : decode cX6_as 80 = .ok (.ireturn, 1) := by decide +kernel
theorem dX6_begins_0 : decode cX6_begins 0 = .ok (.aload_n 0, 1) := by decide +kernel
theorem dX6_begins_1 : decode cX6_begins 1 = .ok (.getfield 227, 3) := by decide +kernel
theorem dX6_begins_4 : decode cX6_begins 4 = .ok (.bipush 16, 2) := by decide +kernel
theorem dX6_begins_6 : decode cX6_begins 6 = .ok (.if_icmp .ge 23, 3) := by decide +kernel
theorem dX6_begins_9 : decode cX6_begins 9 = .ok (.aload_n 0, 1) := by decide +kernel
theorem dX6_begins_10 : decode cX6_begins 10 = .ok (.getfield 44, 3) := by decide +kernel
theorem dX6_begins_13 : decode cX6_begins 13 = .ok (.aload_n 0, 1) := by decide +kernel
theorem dX6_begins_14 : decode cX6_begins 14 = .ok (.getfield 227, 3) := by decide +kernel
theorem dX6_begins_17 : decode cX6_begins 17 = .ok (.iload_n 1, 1) := by decide +kernel
theorem dX6_begins_18 : decode cX6_begins 18 = .ok (.iastore, 1) := by decide +kernel
theorem dX6_begins_19 : decode cX6_begins 19 = .ok (.aload_n 0, 1) := by decide +kernel
theorem dX6_begins_20 : decode cX6_begins 20 = .ok (.dup, 1) := by decide +kernel
theorem dX6_begins_21 : decode cX6_begins 21 = .ok (.getfield 227, 3) := by decide +kernel
theorem dX6_begins_24 : decode cX6_begins 24 = .ok (.iconst 1, 1) := by decide +kernel
theorem dX6_begins_25 : decode cX6_begins 25 = .ok (.iadd, 1) := by decide +kernel
theorem dX6_begins_26 : decode cX6_begins 26 = .ok (.putfield 227, 3) := by decide +kernel
theorem dX6_begins_29 : decode cX6_begins 29 = .ok (.return_, 1) := by decide +kernel
theorem dX6_stickMark_0 : decode cX6_stickMark 0 = .ok (.aload_n 0, 1) := by decide +kernel
theorem dX6_stickMark_1 : decode cX6_stickMark 1 = .ok (.iload_n 1, 1) := by decide +kernel
theorem dX6_stickMark_2 : decode cX6_stickMark 2 = .ok (.invokevirtual 224, 3) := by decide +kernel
theorem dX6_stickMark_5 : decode cX6_stickMark 5 = .ok (.istore_n 2, 1) := by decide +kernel
theorem dX6_stickMark_6 : decode cX6_stickMark 6 = .ok (.iload_n 2, 1) := by decide +kernel
theorem dX6_stickMark_7 : decode cX6_stickMark 7 = .ok (.iconst 1, 1) := by decide +kernel
theorem dX6_stickMark_8 : decode cX6_stickMark 8 = .ok (.if_icmp .eq 19, 3) := by decide +kernel
theorem dX6_stickMark_11 : decode cX6_stickMark 11 = .ok (.aload_n 0, 1) := by decide +kernel
theorem dX6_stickMark_12 : decode cX6_stickMark 12 = .ok (.iload_n 2, 1) := by decide +kernel
theorem dX6_stickMark_13 : decode cX6_stickMark 13 = .ok (.iconst 2, 1) := by decide +kernel
theorem dX6_stickMark_14 : decode cX6_stickMark 14 = .ok (.if_icmp .ne 8, 3) := by decide +kernel
theorem dX6_stickMark_17 : decode cX6_stickMark 17 = .ok (.bipush 24, 2) := by decide +kernel
theorem dX6_stickMark_19 : decode cX6_stickMark 19 = .ok (.goto 5, 3) := by decide +kernel
theorem dX6_stickMark_22 : decode cX6_stickMark 22 = .ok (.bipush 22, 2) := by decide +kernel
theorem dX6_stickMark_24 : decode cX6_stickMark 24 = .ok (.invokevirtual 230, 3) := by decide +kernel
theorem dX6_stickMark_27 : decode cX6_stickMark 27 = .ok (.aload_n 0, 1) := by decide +kernel
theorem dX6_stickMark_28 : decode cX6_stickMark 28 = .ok (.bipush 21, 2) := by decide +kernel
theorem dX6_stickMark_30 : decode cX6_stickMark 30 = .ok (.invokevirtual 230, 3) := by decide +kernel
theorem dX6_stickMark_33 : decode cX6_stickMark 33 = .ok (.aload_n 0, 1) := by decide +kernel
theorem dX6_stickMark_34 : decode cX6_stickMark 34 = .ok (.bipush 20, 2) := by decide +kernel
theorem dX6_stickMark_36 : decode cX6_stickMark 36 = .ok (.invokevirtual 230, 3) := by decide +kernel
theorem dX6_stickMark_39 : decode cX6_stickMark 39 = .ok (.iload_n 1, 1) := by decide +kernel
theorem dX6_stickMark_40 : decode cX6_stickMark 40 = .ok (.aload_n 0, 1) := by decide +kernel
theorem dX6_stickMark_41 : decode cX6_stickMark 41 = .ok (.getfield 25, 3) := by decide +kernel
theorem dX6_stickMark_44 : decode cX6_stickMark 44 = .ok (.bipush 17, 2) := by decide +kernel
theorem dX6_stickMark_46 : decode cX6_stickMark 46 = .ok (.iconst 4, 1) := by decide +kernel
theorem dX6_stickMark_47 : decode cX6_stickMark 47 = .ok (.iload_n 1, 1) := by decide +kernel
theorem dX6_stickMark_48 : decode cX6_stickMark 48 = .ok (.imul, 1) := by decide +kernel
theorem dX6_stickMark_49 : decode cX6_stickMark 49 = .ok (.iadd, 1) := by decide +kernel
theorem dX6_stickMark_50 : decode cX6_stickMark 50 = .ok (.iconst 2, 1) := by decide +kernel
theorem dX6_stickMark_51 : decode cX6_stickMark 51 = .ok (.iadd, 1) := by decide +kernel
theorem dX6_stickMark_52 : decode cX6_stickMark 52 = .ok (.iaload, 1) := by decide +kernel
theorem dX6_stickMark_53 : decode cX6_stickMark 53 = .ok (.iadd, 1) := by decide +kernel
theorem dX6_stickMark_54 : decode cX6_stickMark 54 = .ok (.istore_n 3, 1) := by decide +kernel
theorem dX6_stickMark_55 : decode cX6_stickMark 55 = .ok (.iload_n 2, 1) := by decide +kernel
theorem dX6_stickMark_56 : decode cX6_stickMark 56 = .ok (.iconst 2, 1) := by decide +kernel
theorem dX6_stickMark_57 : decode cX6_stickMark 57 = .ok (.if_icmp .ne 9, 3) := by decide +kernel
theorem dX6_stickMark_60 : decode cX6_stickMark 60 = .ok (.iconst 2, 1) := by decide +kernel
theorem dX6_stickMark_61 : decode cX6_stickMark 61 = .ok (.iload_n 3, 1) := by decide +kernel
theorem dX6_stickMark_62 : decode cX6_stickMark 62 = .ok (.imul, 1) := by decide +kernel
theorem dX6_stickMark_63 : decode cX6_stickMark 63 = .ok (.goto 17, 3) := by decide +kernel
theorem dX6_stickMark_66 : decode cX6_stickMark 66 = .ok (.iload_n 2, 1) := by decide +kernel
theorem dX6_stickMark_67 : decode cX6_stickMark 67 = .ok (.iconst 3, 1) := by decide +kernel
theorem dX6_stickMark_68 : decode cX6_stickMark 68 = .ok (.if_icmp .ne 11, 3) := by decide +kernel
theorem dX6_stickMark_71 : decode cX6_stickMark 71 = .ok (.iload_n 3, 1) := by decide +kernel
theorem dX6_stickMark_72 : decode cX6_stickMark 72 = .ok (.sipush 1000, 3) := by decide +kernel
theorem dX6_stickMark_75 : decode cX6_stickMark 75 = .ok (.isub, 1) := by decide +kernel
theorem dX6_stickMark_76 : decode cX6_stickMark 76 = .ok (.goto 4, 3) := by decide +kernel
theorem dX6_stickMark_79 : decode cX6_stickMark 79 = .ok (.iload_n 3, 1) := by decide +kernel
theorem dX6_stickMark_80 : decode cX6_stickMark 80 = .ok (.ireturn, 1) := by decide +kernel
theorem dX6_salmonSize_0 : decode cX6_salmonSize 0 = .ok (.aload_n 0, 1) := by decide +kernel
theorem dX6_salmonSize_1 : decode cX6_salmonSize 1 = .ok (.iload_n 1, 1) := by decide +kernel
theorem dX6_salmonSize_2 : decode cX6_salmonSize 2 = .ok (.invokevirtual 224, 3) := by decide +kernel
theorem dX6_salmonSize_5 : decode cX6_salmonSize 5 = .ok (.iconst 5, 1) := by decide +kernel
theorem dX6_salmonSize_6 : decode cX6_salmonSize 6 = .ok (.if_icmp .ne 7, 3) := by decide +kernel
theorem dX6_salmonSize_9 : decode cX6_salmonSize 9 = .ok (.iconst 1, 1) := by decide +kernel
theorem dX6_salmonSize_10 : decode cX6_salmonSize 10 = .ok (.goto 4, 3) := by decide +kernel
theorem dX6_salmonSize_13 : decode cX6_salmonSize 13 = .ok (.iconst 0, 1) := by decide +kernel
theorem dX6_salmonSize_14 : decode cX6_salmonSize 14 = .ok (.istore_n 2, 1) := by decide +kernel
theorem dX6_salmonSize_15 : decode cX6_salmonSize 15 = .ok (.iload_n 2, 1) := by decide +kernel
theorem dX6_salmonSize_16 : decode cX6_salmonSize 16 = .ok (.ifCond .eq 9, 3) := by decide +kernel
theorem dX6_salmonSize_19 : decode cX6_salmonSize 19 = .ok (.aload_n 0, 1) := by decide +kernel
theorem dX6_salmonSize_20 : decode cX6_salmonSize 20 = .ok (.bipush 14, 2) := by decide +kernel
theorem dX6_salmonSize_22 : decode cX6_salmonSize 22 = .ok (.invokevirtual 230, 3) := by decide +kernel
theorem dX6_salmonSize_25 : decode cX6_salmonSize 25 = .ok (.aload_n 0, 1) := by decide +kernel
theorem dX6_salmonSize_26 : decode cX6_salmonSize 26 = .ok (.bipush 13, 2) := by decide +kernel
theorem dX6_salmonSize_28 : decode cX6_salmonSize 28 = .ok (.invokevirtual 230, 3) := by decide +kernel
theorem dX6_salmonSize_31 : decode cX6_salmonSize 31 = .ok (.aload_n 0, 1) := by decide +kernel
theorem dX6_salmonSize_32 : decode cX6_salmonSize 32 = .ok (.bipush 10, 2) := by decide +kernel
theorem dX6_salmonSize_34 : decode cX6_salmonSize 34 = .ok (.invokevirtual 230, 3) := by decide +kernel
theorem dX6_salmonSize_37 : decode cX6_salmonSize 37 = .ok (.aload_n 0, 1) := by decide +kernel
theorem dX6_salmonSize_38 : decode cX6_salmonSize 38 = .ok (.getfield 25, 3) := by decide +kernel
theorem dX6_salmonSize_41 : decode cX6_salmonSize 41 = .ok (.bipush 17, 2) := by decide +kernel
theorem dX6_salmonSize_43 : decode cX6_salmonSize 43 = .ok (.iconst 4, 1) := by decide +kernel
theorem dX6_salmonSize_44 : decode cX6_salmonSize 44 = .ok (.iload_n 1, 1) := by decide +kernel
theorem dX6_salmonSize_45 : decode cX6_salmonSize 45 = .ok (.imul, 1) := by decide +kernel
theorem dX6_salmonSize_46 : decode cX6_salmonSize 46 = .ok (.iadd, 1) := by decide +kernel
theorem dX6_salmonSize_47 : decode cX6_salmonSize 47 = .ok (.iconst 1, 1) := by decide +kernel
theorem dX6_salmonSize_48 : decode cX6_salmonSize 48 = .ok (.iadd, 1) := by decide +kernel
theorem dX6_salmonSize_49 : decode cX6_salmonSize 49 = .ok (.iaload, 1) := by decide +kernel
theorem dX6_salmonSize_50 : decode cX6_salmonSize 50 = .ok (.bipush 100, 2) := by decide +kernel
theorem dX6_salmonSize_52 : decode cX6_salmonSize 52 = .ok (.isub, 1) := by decide +kernel
theorem dX6_salmonSize_53 : decode cX6_salmonSize 53 = .ok (.istore_n 3, 1) := by decide +kernel
theorem dX6_salmonSize_54 : decode cX6_salmonSize 54 = .ok (.iload_n 2, 1) := by decide +kernel
theorem dX6_salmonSize_55 : decode cX6_salmonSize 55 = .ok (.ifCond .eq 9, 3) := by decide +kernel
theorem dX6_salmonSize_58 : decode cX6_salmonSize 58 = .ok (.iconst 2, 1) := by decide +kernel
theorem dX6_salmonSize_59 : decode cX6_salmonSize 59 = .ok (.iload_n 3, 1) := by decide +kernel
theorem dX6_salmonSize_60 : decode cX6_salmonSize 60 = .ok (.imul, 1) := by decide +kernel
theorem dX6_salmonSize_61 : decode cX6_salmonSize 61 = .ok (.goto 4, 3) := by decide +kernel
theorem dX6_salmonSize_64 : decode cX6_salmonSize 64 = .ok (.iload_n 3, 1) := by decide +kernel
theorem dX6_salmonSize_65 : decode cX6_salmonSize 65 = .ok (.ireturn, 1) := by decide +kernel
theorem dX6_stickSize_0 : decode cX6_stickSize 0 = .ok (.aload_n 0, 1) := by decide +kernel
theorem dX6_stickSize_1 : decode cX6_stickSize 1 = .ok (.iload_n 1, 1) := by decide +kernel
theorem dX6_stickSize_2 : decode cX6_stickSize 2 = .ok (.invokevirtual 224, 3) := by decide +kernel
theorem dX6_stickSize_5 : decode cX6_stickSize 5 = .ok (.iconst 2, 1) := by decide +kernel
theorem dX6_stickSize_6 : decode cX6_stickSize 6 = .ok (.if_icmp .ne 7, 3) := by decide +kernel
theorem dX6_stickSize_9 : decode cX6_stickSize 9 = .ok (.iconst 1, 1) := by decide +kernel
theorem dX6_stickSize_10 : decode cX6_stickSize 10 = .ok (.goto 4, 3) := by decide +kernel
theorem dX6_stickSize_13 : decode cX6_stickSize 13 = .ok (.iconst 0, 1) := by decide +kernel
theorem dX6_stickSize_14 : decode cX6_stickSize 14 = .ok (.istore_n 2, 1) := by decide +kernel
theorem dX6_stickSize_15 : decode cX6_stickSize 15 = .ok (.iload_n 2, 1) := by decide +kernel
theorem dX6_stickSize_16 : decode cX6_stickSize 16 = .ok (.ifCond .eq 9, 3) := by decide +kernel
theorem dX6_stickSize_19 : decode cX6_stickSize 19 = .ok (.aload_n 0, 1) := by decide +kernel
theorem dX6_stickSize_20 : decode cX6_stickSize 20 = .ok (.bipush 12, 2) := by decide +kernel
theorem dX6_stickSize_22 : decode cX6_stickSize 22 = .ok (.invokevirtual 230, 3) := by decide +kernel
theorem dX6_stickSize_25 : decode cX6_stickSize 25 = .ok (.aload_n 0, 1) := by decide +kernel
theorem dX6_stickSize_26 : decode cX6_stickSize 26 = .ok (.bipush 11, 2) := by decide +kernel
theorem dX6_stickSize_28 : decode cX6_stickSize 28 = .ok (.invokevirtual 230, 3) := by decide +kernel
theorem dX6_stickSize_31 : decode cX6_stickSize 31 = .ok (.aload_n 0, 1) := by decide +kernel
theorem dX6_stickSize_32 : decode cX6_stickSize 32 = .ok (.bipush 10, 2) := by decide +kernel
theorem dX6_stickSize_34 : decode cX6_stickSize 34 = .ok (.invokevirtual 230, 3) := by decide +kernel
theorem dX6_stickSize_37 : decode cX6_stickSize 37 = .ok (.aload_n 0, 1) := by decide +kernel
theorem dX6_stickSize_38 : decode cX6_stickSize 38 = .ok (.getfield 25, 3) := by decide +kernel
theorem dX6_stickSize_41 : decode cX6_stickSize 41 = .ok (.bipush 17, 2) := by decide +kernel
theorem dX6_stickSize_43 : decode cX6_stickSize 43 = .ok (.iconst 4, 1) := by decide +kernel
theorem dX6_stickSize_44 : decode cX6_stickSize 44 = .ok (.iload_n 1, 1) := by decide +kernel
theorem dX6_stickSize_45 : decode cX6_stickSize 45 = .ok (.imul, 1) := by decide +kernel
theorem dX6_stickSize_46 : decode cX6_stickSize 46 = .ok (.iadd, 1) := by decide +kernel
theorem dX6_stickSize_47 : decode cX6_stickSize 47 = .ok (.iconst 1, 1) := by decide +kernel
theorem dX6_stickSize_48 : decode cX6_stickSize 48 = .ok (.iadd, 1) := by decide +kernel
theorem dX6_stickSize_49 : decode cX6_stickSize 49 = .ok (.iaload, 1) := by decide +kernel
theorem dX6_stickSize_50 : decode cX6_stickSize 50 = .ok (.aload_n 0, 1) := by decide +kernel
theorem dX6_stickSize_51 : decode cX6_stickSize 51 = .ok (.iload_n 1, 1) := by decide +kernel
theorem dX6_stickSize_52 : decode cX6_stickSize 52 = .ok (.invokevirtual 233, 3) := by decide +kernel
theorem dX6_stickSize_55 : decode cX6_stickSize 55 = .ok (.iadd, 1) := by decide +kernel
theorem dX6_stickSize_56 : decode cX6_stickSize 56 = .ok (.istore_n 3, 1) := by decide +kernel
theorem dX6_stickSize_57 : decode cX6_stickSize 57 = .ok (.iload_n 2, 1) := by decide +kernel
theorem dX6_stickSize_58 : decode cX6_stickSize 58 = .ok (.ifCond .eq 8, 3) := by decide +kernel
theorem dX6_stickSize_61 : decode cX6_stickSize 61 = .ok (.iload_n 3, 1) := by decide +kernel
theorem dX6_stickSize_62 : decode cX6_stickSize 62 = .ok (.ineg, 1) := by decide +kernel
theorem dX6_stickSize_63 : decode cX6_stickSize 63 = .ok (.goto 4, 3) := by decide +kernel
theorem dX6_stickSize_66 : decode cX6_stickSize 66 = .ok (.iload_n 3, 1) := by decide +kernel
theorem dX6_stickSize_67 : decode cX6_stickSize 67 = .ok (.ireturn, 1) := by decide +kernel
theorem dX6_salmonMark_0 : decode cX6_salmonMark 0 = .ok (.aload_n 0, 1) := by decide +kernel
theorem dX6_salmonMark_1 : decode cX6_salmonMark 1 = .ok (.bipush 23, 2) := by decide +kernel
theorem dX6_salmonMark_3 : decode cX6_salmonMark 3 = .ok (.invokevirtual 230, 3) := by decide +kernel
theorem dX6_salmonMark_6 : decode cX6_salmonMark 6 = .ok (.aload_n 0, 1) := by decide +kernel
theorem dX6_salmonMark_7 : decode cX6_salmonMark 7 = .ok (.bipush 20, 2) := by decide +kernel
theorem dX6_salmonMark_9 : decode cX6_salmonMark 9 = .ok (.invokevirtual 230, 3) := by decide +kernel
theorem dX6_salmonMark_12 : decode cX6_salmonMark 12 = .ok (.iload_n 1, 1) := by decide +kernel
theorem dX6_salmonMark_13 : decode cX6_salmonMark 13 = .ok (.aload_n 0, 1) := by decide +kernel
theorem dX6_salmonMark_14 : decode cX6_salmonMark 14 = .ok (.iload_n 1, 1) := by decide +kernel
theorem dX6_salmonMark_15 : decode cX6_salmonMark 15 = .ok (.invokevirtual 236, 3) := by decide +kernel
theorem dX6_salmonMark_18 : decode cX6_salmonMark 18 = .ok (.isub, 1) := by decide +kernel
theorem dX6_salmonMark_19 : decode cX6_salmonMark 19 = .ok (.ireturn, 1) := by decide +kernel
theorem dX6_ask_0 : decode cX6_ask 0 = .ok (.aload_n 0, 1) := by decide +kernel
theorem dX6_ask_1 : decode cX6_ask 1 = .ok (.iload_n 1, 1) := by decide +kernel
theorem dX6_ask_2 : decode cX6_ask 2 = .ok (.invokevirtual 176, 3) := by decide +kernel
theorem dX6_ask_5 : decode cX6_ask 5 = .ok (.ifCond .eq 12, 3) := by decide +kernel
theorem dX6_ask_8 : decode cX6_ask 8 = .ok (.iload_n 2, 1) := by decide +kernel
theorem dX6_ask_9 : decode cX6_ask 9 = .ok (.iconst 0, 1) := by decide +kernel
theorem dX6_ask_10 : decode cX6_ask 10 = .ok (.iconst 1, 1) := by decide +kernel
theorem dX6_ask_11 : decode cX6_ask 11 = .ok (.invokestatic 53, 3) := by decide +kernel
theorem dX6_ask_14 : decode cX6_ask 14 = .ok (.ifCond .ne 6, 3) := by decide +kernel
theorem dX6_ask_17 : decode cX6_ask 17 = .ok (.ldc 61, 2) := by decide +kernel
theorem dX6_ask_19 : decode cX6_ask 19 = .ok (.ireturn, 1) := by decide +kernel
theorem dX6_ask_20 : decode cX6_ask 20 = .ok (.aload_n 0, 1) := by decide +kernel
theorem dX6_ask_21 : decode cX6_ask 21 = .ok (.iconst 0, 1) := by decide +kernel
theorem dX6_ask_22 : decode cX6_ask 22 = .ok (.putfield 227, 3) := by decide +kernel
theorem dX6_ask_25 : decode cX6_ask 25 = .ok (.aload_n 0, 1) := by decide +kernel
theorem dX6_ask_26 : decode cX6_ask 26 = .ok (.iload_n 1, 1) := by decide +kernel
theorem dX6_ask_27 : decode cX6_ask 27 = .ok (.invokevirtual 224, 3) := by decide +kernel
theorem dX6_ask_30 : decode cX6_ask 30 = .ok (.iconst 4, 1) := by decide +kernel
theorem dX6_ask_31 : decode cX6_ask 31 = .ok (.if_icmp .lt 7, 3) := by decide +kernel
theorem dX6_ask_34 : decode cX6_ask 34 = .ok (.iconst 1, 1) := by decide +kernel
theorem dX6_ask_35 : decode cX6_ask 35 = .ok (.goto 4, 3) := by decide +kernel
theorem dX6_ask_38 : decode cX6_ask 38 = .ok (.iconst 0, 1) := by decide +kernel
theorem dX6_ask_39 : decode cX6_ask 39 = .ok (.istore_n 3, 1) := by decide +kernel
theorem dX6_ask_40 : decode cX6_ask 40 = .ok (.iload_n 2, 1) := by decide +kernel
theorem dX6_ask_41 : decode cX6_ask 41 = .ok (.ifCond .ne 21, 3) := by decide +kernel
theorem dX6_ask_44 : decode cX6_ask 44 = .ok (.iload_n 3, 1) := by decide +kernel
theorem dX6_ask_45 : decode cX6_ask 45 = .ok (.ifCond .eq 11, 3) := by decide +kernel
theorem dX6_ask_48 : decode cX6_ask 48 = .ok (.aload_n 0, 1) := by decide +kernel
theorem dX6_ask_49 : decode cX6_ask 49 = .ok (.iload_n 1, 1) := by decide +kernel
theorem dX6_ask_50 : decode cX6_ask 50 = .ok (.invokevirtual 236, 3) := by decide +kernel
theorem dX6_ask_53 : decode cX6_ask 53 = .ok (.goto 8, 3) := by decide +kernel
theorem dX6_ask_56 : decode cX6_ask 56 = .ok (.aload_n 0, 1) := by decide +kernel
theorem dX6_ask_57 : decode cX6_ask 57 = .ok (.iload_n 1, 1) := by decide +kernel
theorem dX6_ask_58 : decode cX6_ask 58 = .ok (.invokevirtual 239, 3) := by decide +kernel
theorem dX6_ask_61 : decode cX6_ask 61 = .ok (.ireturn, 1) := by decide +kernel
theorem dX6_ask_62 : decode cX6_ask 62 = .ok (.iload_n 3, 1) := by decide +kernel
theorem dX6_ask_63 : decode cX6_ask 63 = .ok (.ifCond .eq 11, 3) := by decide +kernel
theorem dX6_ask_66 : decode cX6_ask 66 = .ok (.aload_n 0, 1) := by decide +kernel
theorem dX6_ask_67 : decode cX6_ask 67 = .ok (.iload_n 1, 1) := by decide +kernel
theorem dX6_ask_68 : decode cX6_ask 68 = .ok (.invokevirtual 242, 3) := by decide +kernel
theorem dX6_ask_71 : decode cX6_ask 71 = .ok (.goto 8, 3) := by decide +kernel
theorem dX6_ask_74 : decode cX6_ask 74 = .ok (.aload_n 0, 1) := by decide +kernel
theorem dX6_ask_75 : decode cX6_ask 75 = .ok (.iload_n 1, 1) := by decide +kernel
theorem dX6_ask_76 : decode cX6_ask 76 = .ok (.invokevirtual 233, 3) := by decide +kernel
theorem dX6_ask_79 : decode cX6_ask 79 = .ok (.ireturn, 1) := by decide +kernel
theorem dX6_trace_0 : decode cX6_trace 0 = .ok (.iload_n 1, 1) := by decide +kernel
theorem dX6_trace_1 : decode cX6_trace 1 = .ok (.iconst 0, 1) := by decide +kernel
theorem dX6_trace_2 : decode cX6_trace 2 = .ok (.aload_n 0, 1) := by decide +kernel
theorem dX6_trace_3 : decode cX6_trace 3 = .ok (.getfield 227, 3) := by decide +kernel
theorem dX6_trace_6 : decode cX6_trace 6 = .ok (.iconst 1, 1) := by decide +kernel
theorem dX6_trace_7 : decode cX6_trace 7 = .ok (.isub, 1) := by decide +kernel
theorem dX6_trace_8 : decode cX6_trace 8 = .ok (.invokestatic 53, 3) := by decide +kernel
theorem dX6_trace_11 : decode cX6_trace 11 = .ok (.ifCond .eq 12, 3) := by decide +kernel
theorem dX6_trace_14 : decode cX6_trace 14 = .ok (.aload_n 0, 1) := by decide +kernel
theorem dX6_trace_15 : decode cX6_trace 15 = .ok (.getfield 44, 3) := by decide +kernel
theorem dX6_trace_18 : decode cX6_trace 18 = .ok (.iload_n 1, 1) := by decide +kernel
theorem dX6_trace_19 : decode cX6_trace 19 = .ok (.iaload, 1) := by decide +kernel
theorem dX6_trace_20 : decode cX6_trace 20 = .ok (.goto 5, 3) := by decide +kernel
theorem dX6_trace_23 : decode cX6_trace 23 = .ok (.ldc 47, 2) := by decide +kernel
theorem dX6_trace_25 : decode cX6_trace 25 = .ok (.ireturn, 1) := by decide +kernel
theorem dX6_count_0 : decode cX6_count 0 = .ok (.iconst 0, 1) := by decide +kernel
theorem dX6_count_1 : decode cX6_count 1 = .ok (.istore_n 2, 1) := by decide +kernel
theorem dX6_count_2 : decode cX6_count 2 = .ok (.iload_n 1, 1) := by decide +kernel
theorem dX6_count_3 : decode cX6_count 3 = .ok (.tableswitch 146 0 9 #[53, 85, 92, 99, 106, 113, 120, 128, 136, 141], 53) := by decide +kernel
theorem dX6_count_56 : decode cX6_count 56 = .ok (.iconst 0, 1) := by decide +kernel
theorem dX6_count_57 : decode cX6_count 57 = .ok (.istore_n 3, 1) := by decide +kernel
theorem dX6_count_58 : decode cX6_count 58 = .ok (.iload_n 3, 1) := by decide +kernel
theorem dX6_count_59 : decode cX6_count 59 = .ok (.bipush 8, 2) := by decide +kernel
theorem dX6_count_61 : decode cX6_count 61 = .ok (.if_icmp .ge 25, 3) := by decide +kernel
theorem dX6_count_64 : decode cX6_count 64 = .ok (.iload_n 2, 1) := by decide +kernel
theorem dX6_count_65 : decode cX6_count 65 = .ok (.aload_n 0, 1) := by decide +kernel
theorem dX6_count_66 : decode cX6_count 66 = .ok (.iload_n 3, 1) := by decide +kernel
theorem dX6_count_67 : decode cX6_count 67 = .ok (.invokevirtual 69, 3) := by decide +kernel
theorem dX6_count_70 : decode cX6_count 70 = .ok (.ifCond .eq 7, 3) := by decide +kernel
theorem dX6_count_73 : decode cX6_count 73 = .ok (.iconst 0, 1) := by decide +kernel
theorem dX6_count_74 : decode cX6_count 74 = .ok (.goto 4, 3) := by decide +kernel
theorem dX6_count_77 : decode cX6_count 77 = .ok (.iconst 1, 1) := by decide +kernel
theorem dX6_count_78 : decode cX6_count 78 = .ok (.iadd, 1) := by decide +kernel
theorem dX6_count_79 : decode cX6_count 79 = .ok (.istore_n 2, 1) := by decide +kernel
theorem dX6_count_80 : decode cX6_count 80 = .ok (.iinc 3 1, 3) := by decide +kernel
theorem dX6_count_83 : decode cX6_count 83 = .ok (.goto (-25), 3) := by decide +kernel
theorem dX6_count_86 : decode cX6_count 86 = .ok (.iload_n 2, 1) := by decide +kernel
theorem dX6_count_87 : decode cX6_count 87 = .ok (.ireturn, 1) := by decide +kernel
theorem dX6_count_88 : decode cX6_count 88 = .ok (.aload_n 0, 1) := by decide +kernel
theorem dX6_count_89 : decode cX6_count 89 = .ok (.getfield 25, 3) := by decide +kernel
theorem dX6_count_92 : decode cX6_count 92 = .ok (.iconst 2, 1) := by decide +kernel
theorem dX6_count_93 : decode cX6_count 93 = .ok (.iaload, 1) := by decide +kernel
theorem dX6_count_94 : decode cX6_count 94 = .ok (.ireturn, 1) := by decide +kernel
theorem dX6_count_95 : decode cX6_count 95 = .ok (.aload_n 0, 1) := by decide +kernel
theorem dX6_count_96 : decode cX6_count 96 = .ok (.getfield 25, 3) := by decide +kernel
theorem dX6_count_99 : decode cX6_count 99 = .ok (.iconst 3, 1) := by decide +kernel
theorem dX6_count_100 : decode cX6_count 100 = .ok (.iaload, 1) := by decide +kernel
theorem dX6_count_101 : decode cX6_count 101 = .ok (.ireturn, 1) := by decide +kernel
theorem dX6_count_102 : decode cX6_count 102 = .ok (.aload_n 0, 1) := by decide +kernel
theorem dX6_count_103 : decode cX6_count 103 = .ok (.getfield 25, 3) := by decide +kernel
theorem dX6_count_106 : decode cX6_count 106 = .ok (.iconst 4, 1) := by decide +kernel
theorem dX6_count_107 : decode cX6_count 107 = .ok (.iaload, 1) := by decide +kernel
theorem dX6_count_108 : decode cX6_count 108 = .ok (.ireturn, 1) := by decide +kernel
theorem dX6_count_109 : decode cX6_count 109 = .ok (.aload_n 0, 1) := by decide +kernel
theorem dX6_count_110 : decode cX6_count 110 = .ok (.getfield 25, 3) := by decide +kernel
theorem dX6_count_113 : decode cX6_count 113 = .ok (.iconst 0, 1) := by decide +kernel
theorem dX6_count_114 : decode cX6_count 114 = .ok (.iaload, 1) := by decide +kernel
theorem dX6_count_115 : decode cX6_count 115 = .ok (.ireturn, 1) := by decide +kernel
theorem dX6_count_116 : decode cX6_count 116 = .ok (.aload_n 0, 1) := by decide +kernel
theorem dX6_count_117 : decode cX6_count 117 = .ok (.getfield 25, 3) := by decide +kernel
theorem dX6_count_120 : decode cX6_count 120 = .ok (.iconst 1, 1) := by decide +kernel
theorem dX6_count_121 : decode cX6_count 121 = .ok (.iaload, 1) := by decide +kernel
theorem dX6_count_122 : decode cX6_count 122 = .ok (.ireturn, 1) := by decide +kernel
theorem dX6_count_123 : decode cX6_count 123 = .ok (.aload_n 0, 1) := by decide +kernel
theorem dX6_count_124 : decode cX6_count 124 = .ok (.getfield 25, 3) := by decide +kernel
theorem dX6_count_127 : decode cX6_count 127 = .ok (.invokestatic 196, 3) := by decide +kernel
theorem dX6_count_130 : decode cX6_count 130 = .ok (.ireturn, 1) := by decide +kernel
theorem dX6_count_131 : decode cX6_count 131 = .ok (.aload_n 0, 1) := by decide +kernel
theorem dX6_count_132 : decode cX6_count 132 = .ok (.getfield 25, 3) := by decide +kernel
theorem dX6_count_135 : decode cX6_count 135 = .ok (.invokestatic 172, 3) := by decide +kernel
theorem dX6_count_138 : decode cX6_count 138 = .ok (.ireturn, 1) := by decide +kernel
theorem dX6_count_139 : decode cX6_count 139 = .ok (.aload_n 0, 1) := by decide +kernel
theorem dX6_count_140 : decode cX6_count 140 = .ok (.getfield 139, 3) := by decide +kernel
theorem dX6_count_143 : decode cX6_count 143 = .ok (.ireturn, 1) := by decide +kernel
theorem dX6_count_144 : decode cX6_count 144 = .ok (.aload_n 0, 1) := by decide +kernel
theorem dX6_count_145 : decode cX6_count 145 = .ok (.getfield 79, 3) := by decide +kernel
theorem dX6_count_148 : decode cX6_count 148 = .ok (.ireturn, 1) := by decide +kernel
theorem dX6_count_149 : decode cX6_count 149 = .ok (.ldc 61, 2) := by decide +kernel
theorem dX6_count_151 : decode cX6_count 151 = .ok (.ireturn, 1) := by decide +kernel
theorem dX6_status_0 : decode cX6_status 0 = .ok (.aload_n 0, 1) := by decide +kernel
theorem dX6_status_1 : decode cX6_status 1 = .ok (.getfield 48, 3) := by decide +kernel
theorem dX6_status_4 : decode cX6_status 4 = .ok (.ireturn, 1) := by decide +kernel
theorem dL_law_0 : decode cL_law 0 = .ok (.new 7, 3) := by decide +kernel
theorem dL_law_3 : decode cL_law 3 = .ok (.dup, 1) := by decide +kernel
theorem dL_law_4 : decode cL_law 4 = .ok (.invokespecial 9, 3) := by decide +kernel
theorem dL_law_7 : decode cL_law 7 = .ok (.astore_n 1, 1) := by decide +kernel
theorem dL_law_8 : decode cL_law 8 = .ok (.new 10, 3) := by decide +kernel
theorem dL_law_11 : decode cL_law 11 = .ok (.dup, 1) := by decide +kernel
theorem dL_law_12 : decode cL_law 12 = .ok (.invokespecial 12, 3) := by decide +kernel
theorem dL_law_15 : decode cL_law 15 = .ok (.astore_n 2, 1) := by decide +kernel
theorem dL_law_16 : decode cL_law 16 = .ok (.iconst 0, 1) := by decide +kernel
theorem dL_law_17 : decode cL_law 17 = .ok (.istore_n 3, 1) := by decide +kernel
theorem dL_law_18 : decode cL_law 18 = .ok (.iload_n 3, 1) := by decide +kernel
theorem dL_law_19 : decode cL_law 19 = .ok (.aload_n 0, 1) := by decide +kernel
theorem dL_law_20 : decode cL_law 20 = .ok (.arraylength, 1) := by decide +kernel
theorem dL_law_21 : decode cL_law 21 = .ok (.bipush 6, 2) := by decide +kernel
theorem dL_law_23 : decode cL_law 23 = .ok (.isub, 1) := by decide +kernel
theorem dL_law_24 : decode cL_law 24 = .ok (.if_icmp .gt 1181, 3) := by decide +kernel
theorem dL_law_27 : decode cL_law 27 = .ok (.aload_n 0, 1) := by decide +kernel
theorem dL_law_28 : decode cL_law 28 = .ok (.iload_n 3, 1) := by decide +kernel
theorem dL_law_29 : decode cL_law 29 = .ok (.iaload, 1) := by decide +kernel
theorem dL_law_30 : decode cL_law 30 = .ok (.bipush 63, 2) := by decide +kernel
theorem dL_law_32 : decode cL_law 32 = .ok (.iand, 1) := by decide +kernel
theorem dL_law_33 : decode cL_law 33 = .ok (.tableswitch 1166 0 32 #[147, 190, 233, 296, 319, 342, 355, 368, 391, 434, 467, 490, 503, 536, 569, 612, 635, 658, 671, 704, 737, 780, 813, 876, 929, 972, 995, 1018, 1041, 1074, 1107, 1130, 1153], 147) := by decide +kernel
theorem dL_law_180 : decode cL_law 180 = .ok (.aload_n 1, 1) := by decide +kernel
theorem dL_law_181 : decode cL_law 181 = .ok (.aload_n 0, 1) := by decide +kernel
theorem dL_law_182 : decode cL_law 182 = .ok (.iload_n 3, 1) := by decide +kernel
theorem dL_law_183 : decode cL_law 183 = .ok (.iconst 1, 1) := by decide +kernel
theorem dL_law_184 : decode cL_law 184 = .ok (.iadd, 1) := by decide +kernel
theorem dL_law_185 : decode cL_law 185 = .ok (.iaload, 1) := by decide +kernel
theorem dL_law_186 : decode cL_law 186 = .ok (.aload_n 0, 1) := by decide +kernel
theorem dL_law_187 : decode cL_law 187 = .ok (.iload_n 3, 1) := by decide +kernel
theorem dL_law_188 : decode cL_law 188 = .ok (.iconst 2, 1) := by decide +kernel
theorem dL_law_189 : decode cL_law 189 = .ok (.iadd, 1) := by decide +kernel
theorem dL_law_190 : decode cL_law 190 = .ok (.iaload, 1) := by decide +kernel
theorem dL_law_191 : decode cL_law 191 = .ok (.aload_n 0, 1) := by decide +kernel
theorem dL_law_192 : decode cL_law 192 = .ok (.iload_n 3, 1) := by decide +kernel
theorem dL_law_193 : decode cL_law 193 = .ok (.iconst 3, 1) := by decide +kernel
theorem dL_law_194 : decode cL_law 194 = .ok (.iadd, 1) := by decide +kernel
theorem dL_law_195 : decode cL_law 195 = .ok (.iaload, 1) := by decide +kernel
theorem dL_law_196 : decode cL_law 196 = .ok (.invokevirtual 13, 3) := by decide +kernel
theorem dL_law_199 : decode cL_law 199 = .ok (.aload_n 2, 1) := by decide +kernel
theorem dL_law_200 : decode cL_law 200 = .ok (.aload_n 0, 1) := by decide +kernel
theorem dL_law_201 : decode cL_law 201 = .ok (.iload_n 3, 1) := by decide +kernel
theorem dL_law_202 : decode cL_law 202 = .ok (.iconst 1, 1) := by decide +kernel
theorem dL_law_203 : decode cL_law 203 = .ok (.iadd, 1) := by decide +kernel
theorem dL_law_204 : decode cL_law 204 = .ok (.iaload, 1) := by decide +kernel
theorem dL_law_205 : decode cL_law 205 = .ok (.aload_n 0, 1) := by decide +kernel
theorem dL_law_206 : decode cL_law 206 = .ok (.iload_n 3, 1) := by decide +kernel
theorem dL_law_207 : decode cL_law 207 = .ok (.iconst 2, 1) := by decide +kernel
theorem dL_law_208 : decode cL_law 208 = .ok (.iadd, 1) := by decide +kernel
theorem dL_law_209 : decode cL_law 209 = .ok (.iaload, 1) := by decide +kernel
theorem dL_law_210 : decode cL_law 210 = .ok (.aload_n 0, 1) := by decide +kernel
theorem dL_law_211 : decode cL_law 211 = .ok (.iload_n 3, 1) := by decide +kernel
theorem dL_law_212 : decode cL_law 212 = .ok (.iconst 3, 1) := by decide +kernel
theorem dL_law_213 : decode cL_law 213 = .ok (.iadd, 1) := by decide +kernel
theorem dL_law_214 : decode cL_law 214 = .ok (.iaload, 1) := by decide +kernel
theorem dL_law_215 : decode cL_law 215 = .ok (.invokevirtual 17, 3) := by decide +kernel
theorem dL_law_218 : decode cL_law 218 = .ok (.if_icmp .eq 981, 3) := by decide +kernel
theorem dL_law_221 : decode cL_law 221 = .ok (.iconst 0, 1) := by decide +kernel
theorem dL_law_222 : decode cL_law 222 = .ok (.ireturn, 1) := by decide +kernel
theorem dL_law_223 : decode cL_law 223 = .ok (.aload_n 1, 1) := by decide +kernel
theorem dL_law_224 : decode cL_law 224 = .ok (.aload_n 0, 1) := by decide +kernel
theorem dL_law_225 : decode cL_law 225 = .ok (.iload_n 3, 1) := by decide +kernel
theorem dL_law_226 : decode cL_law 226 = .ok (.iconst 1, 1) := by decide +kernel
theorem dL_law_227 : decode cL_law 227 = .ok (.iadd, 1) := by decide +kernel
theorem dL_law_228 : decode cL_law 228 = .ok (.iaload, 1) := by decide +kernel
theorem dL_law_229 : decode cL_law 229 = .ok (.aload_n 0, 1) := by decide +kernel
theorem dL_law_230 : decode cL_law 230 = .ok (.iload_n 3, 1) := by decide +kernel
theorem dL_law_231 : decode cL_law 231 = .ok (.iconst 2, 1) := by decide +kernel
theorem dL_law_232 : decode cL_law 232 = .ok (.iadd, 1) := by decide +kernel
theorem dL_law_233 : decode cL_law 233 = .ok (.iaload, 1) := by decide +kernel
theorem dL_law_234 : decode cL_law 234 = .ok (.aload_n 0, 1) := by decide +kernel
theorem dL_law_235 : decode cL_law 235 = .ok (.iload_n 3, 1) := by decide +kernel
theorem dL_law_236 : decode cL_law 236 = .ok (.iconst 3, 1) := by decide +kernel
theorem dL_law_237 : decode cL_law 237 = .ok (.iadd, 1) := by decide +kernel
theorem dL_law_238 : decode cL_law 238 = .ok (.iaload, 1) := by decide +kernel
theorem dL_law_239 : decode cL_law 239 = .ok (.invokevirtual 18, 3) := by decide +kernel
theorem dL_law_242 : decode cL_law 242 = .ok (.aload_n 2, 1) := by decide +kernel
theorem dL_law_243 : decode cL_law 243 = .ok (.aload_n 0, 1) := by decide +kernel
theorem dL_law_244 : decode cL_law 244 = .ok (.iload_n 3, 1) := by decide +kernel
theorem dL_law_245 : decode cL_law 245 = .ok (.iconst 1, 1) := by decide +kernel
theorem dL_law_246 : decode cL_law 246 = .ok (.iadd, 1) := by decide +kernel
theorem dL_law_247 : decode cL_law 247 = .ok (.iaload, 1) := by decide +kernel
theorem dL_law_248 : decode cL_law 248 = .ok (.aload_n 0, 1) := by decide +kernel
theorem dL_law_249 : decode cL_law 249 = .ok (.iload_n 3, 1) := by decide +kernel
theorem dL_law_250 : decode cL_law 250 = .ok (.iconst 2, 1) := by decide +kernel
theorem dL_law_251 : decode cL_law 251 = .ok (.iadd, 1) := by decide +kernel
theorem dL_law_252 : decode cL_law 252 = .ok (.iaload, 1) := by decide +kernel
theorem dL_law_253 : decode cL_law 253 = .ok (.aload_n 0, 1) := by decide +kernel
theorem dL_law_254 : decode cL_law 254 = .ok (.iload_n 3, 1) := by decide +kernel
theorem dL_law_255 : decode cL_law 255 = .ok (.iconst 3, 1) := by decide +kernel
theorem dL_law_256 : decode cL_law 256 = .ok (.iadd, 1) := by decide +kernel
theorem dL_law_257 : decode cL_law 257 = .ok (.iaload, 1) := by decide +kernel
theorem dL_law_258 : decode cL_law 258 = .ok (.invokevirtual 21, 3) := by decide +kernel
theorem dL_law_261 : decode cL_law 261 = .ok (.if_icmp .eq 938, 3) := by decide +kernel
theorem dL_law_264 : decode cL_law 264 = .ok (.iconst 0, 1) := by decide +kernel
theorem dL_law_265 : decode cL_law 265 = .ok (.ireturn, 1) := by decide +kernel
theorem dL_law_266 : decode cL_law 266 = .ok (.aload_n 1, 1) := by decide +kernel
theorem dL_law_267 : decode cL_law 267 = .ok (.aload_n 0, 1) := by decide +kernel
theorem dL_law_268 : decode cL_law 268 = .ok (.iload_n 3, 1) := by decide +kernel
theorem dL_law_269 : decode cL_law 269 = .ok (.iconst 1, 1) := by decide +kernel
theorem dL_law_270 : decode cL_law 270 = .ok (.iadd, 1) := by decide +kernel
theorem dL_law_271 : decode cL_law 271 = .ok (.iaload, 1) := by decide +kernel
theorem dL_law_272 : decode cL_law 272 = .ok (.aload_n 0, 1) := by decide +kernel
theorem dL_law_273 : decode cL_law 273 = .ok (.iload_n 3, 1) := by decide +kernel
theorem dL_law_274 : decode cL_law 274 = .ok (.iconst 2, 1) := by decide +kernel
theorem dL_law_275 : decode cL_law 275 = .ok (.iadd, 1) := by decide +kernel
theorem dL_law_276 : decode cL_law 276 = .ok (.iaload, 1) := by decide +kernel
theorem dL_law_277 : decode cL_law 277 = .ok (.aload_n 0, 1) := by decide +kernel
theorem dL_law_278 : decode cL_law 278 = .ok (.iload_n 3, 1) := by decide +kernel
theorem dL_law_279 : decode cL_law 279 = .ok (.iconst 3, 1) := by decide +kernel
theorem dL_law_280 : decode cL_law 280 = .ok (.iadd, 1) := by decide +kernel
theorem dL_law_281 : decode cL_law 281 = .ok (.iaload, 1) := by decide +kernel
theorem dL_law_282 : decode cL_law 282 = .ok (.aload_n 0, 1) := by decide +kernel
theorem dL_law_283 : decode cL_law 283 = .ok (.iload_n 3, 1) := by decide +kernel
theorem dL_law_284 : decode cL_law 284 = .ok (.iconst 4, 1) := by decide +kernel
theorem dL_law_285 : decode cL_law 285 = .ok (.iadd, 1) := by decide +kernel
theorem dL_law_286 : decode cL_law 286 = .ok (.iaload, 1) := by decide +kernel
theorem dL_law_287 : decode cL_law 287 = .ok (.aload_n 0, 1) := by decide +kernel
theorem dL_law_288 : decode cL_law 288 = .ok (.iload_n 3, 1) := by decide +kernel
theorem dL_law_289 : decode cL_law 289 = .ok (.iconst 5, 1) := by decide +kernel
theorem dL_law_290 : decode cL_law 290 = .ok (.iadd, 1) := by decide +kernel
theorem dL_law_291 : decode cL_law 291 = .ok (.iaload, 1) := by decide +kernel
theorem dL_law_292 : decode cL_law 292 = .ok (.invokevirtual 22, 3) := by decide +kernel
theorem dL_law_295 : decode cL_law 295 = .ok (.aload_n 2, 1) := by decide +kernel
theorem dL_law_296 : decode cL_law 296 = .ok (.aload_n 0, 1) := by decide +kernel
theorem dL_law_297 : decode cL_law 297 = .ok (.iload_n 3, 1) := by decide +kernel
theorem dL_law_298 : decode cL_law 298 = .ok (.iconst 1, 1) := by decide +kernel
theorem dL_law_299 : decode cL_law 299 = .ok (.iadd, 1) := by decide +kernel
theorem dL_law_300 : decode cL_law 300 = .ok (.iaload, 1) := by decide +kernel
theorem dL_law_301 : decode cL_law 301 = .ok (.aload_n 0, 1) := by decide +kernel
theorem dL_law_302 : decode cL_law 302 = .ok (.iload_n 3, 1) := by decide +kernel
theorem dL_law_303 : decode cL_law 303 = .ok (.iconst 2, 1) := by decide +kernel
theorem dL_law_304 : decode cL_law 304 = .ok (.iadd, 1) := by decide +kernel
theorem dL_law_305 : decode cL_law 305 = .ok (.iaload, 1) := by decide +kernel
theorem dL_law_306 : decode cL_law 306 = .ok (.aload_n 0, 1) := by decide +kernel
theorem dL_law_307 : decode cL_law 307 = .ok (.iload_n 3, 1) := by decide +kernel
theorem dL_law_308 : decode cL_law 308 = .ok (.iconst 3, 1) := by decide +kernel
theorem dL_law_309 : decode cL_law 309 = .ok (.iadd, 1) := by decide +kernel
theorem dL_law_310 : decode cL_law 310 = .ok (.iaload, 1) := by decide +kernel
theorem dL_law_311 : decode cL_law 311 = .ok (.aload_n 0, 1) := by decide +kernel
theorem dL_law_312 : decode cL_law 312 = .ok (.iload_n 3, 1) := by decide +kernel
theorem dL_law_313 : decode cL_law 313 = .ok (.iconst 4, 1) := by decide +kernel
theorem dL_law_314 : decode cL_law 314 = .ok (.iadd, 1) := by decide +kernel
theorem dL_law_315 : decode cL_law 315 = .ok (.iaload, 1) := by decide +kernel
theorem dL_law_316 : decode cL_law 316 = .ok (.aload_n 0, 1) := by decide +kernel
theorem dL_law_317 : decode cL_law 317 = .ok (.iload_n 3, 1) := by decide +kernel
theorem dL_law_318 : decode cL_law 318 = .ok (.iconst 5, 1) := by decide +kernel
theorem dL_law_319 : decode cL_law 319 = .ok (.iadd, 1) := by decide +kernel
theorem dL_law_320 : decode cL_law 320 = .ok (.iaload, 1) := by decide +kernel
theorem dL_law_321 : decode cL_law 321 = .ok (.invokevirtual 26, 3) := by decide +kernel
theorem dL_law_324 : decode cL_law 324 = .ok (.if_icmp .eq 875, 3) := by decide +kernel
theorem dL_law_327 : decode cL_law 327 = .ok (.iconst 0, 1) := by decide +kernel
theorem dL_law_328 : decode cL_law 328 = .ok (.ireturn, 1) := by decide +kernel
theorem dL_law_329 : decode cL_law 329 = .ok (.aload_n 1, 1) := by decide +kernel
theorem dL_law_330 : decode cL_law 330 = .ok (.aload_n 0, 1) := by decide +kernel
theorem dL_law_331 : decode cL_law 331 = .ok (.iload_n 3, 1) := by decide +kernel
theorem dL_law_332 : decode cL_law 332 = .ok (.iconst 1, 1) := by decide +kernel
theorem dL_law_333 : decode cL_law 333 = .ok (.iadd, 1) := by decide +kernel
theorem dL_law_334 : decode cL_law 334 = .ok (.iaload, 1) := by decide +kernel
theorem dL_law_335 : decode cL_law 335 = .ok (.invokevirtual 27, 3) := by decide +kernel
theorem dL_law_338 : decode cL_law 338 = .ok (.aload_n 2, 1) := by decide +kernel
theorem dL_law_339 : decode cL_law 339 = .ok (.aload_n 0, 1) := by decide +kernel
theorem dL_law_340 : decode cL_law 340 = .ok (.iload_n 3, 1) := by decide +kernel
theorem dL_law_341 : decode cL_law 341 = .ok (.iconst 1, 1) := by decide +kernel
theorem dL_law_342 : decode cL_law 342 = .ok (.iadd, 1) := by decide +kernel
theorem dL_law_343 : decode cL_law 343 = .ok (.iaload, 1) := by decide +kernel
theorem dL_law_344 : decode cL_law 344 = .ok (.invokevirtual 31, 3) := by decide +kernel
theorem dL_law_347 : decode cL_law 347 = .ok (.if_icmp .eq 852, 3) := by decide +kernel
theorem dL_law_350 : decode cL_law 350 = .ok (.iconst 0, 1) := by decide +kernel
theorem dL_law_351 : decode cL_law 351 = .ok (.ireturn, 1) := by decide +kernel
theorem dL_law_352 : decode cL_law 352 = .ok (.aload_n 1, 1) := by decide +kernel
theorem dL_law_353 : decode cL_law 353 = .ok (.aload_n 0, 1) := by decide +kernel
theorem dL_law_354 : decode cL_law 354 = .ok (.iload_n 3, 1) := by decide +kernel
theorem dL_law_355 : decode cL_law 355 = .ok (.iconst 1, 1) := by decide +kernel
theorem dL_law_356 : decode cL_law 356 = .ok (.iadd, 1) := by decide +kernel
theorem dL_law_357 : decode cL_law 357 = .ok (.iaload, 1) := by decide +kernel
theorem dL_law_358 : decode cL_law 358 = .ok (.invokevirtual 32, 3) := by decide +kernel
theorem dL_law_361 : decode cL_law 361 = .ok (.aload_n 2, 1) := by decide +kernel
theorem dL_law_362 : decode cL_law 362 = .ok (.aload_n 0, 1) := by decide +kernel
theorem dL_law_363 : decode cL_law 363 = .ok (.iload_n 3, 1) := by decide +kernel
theorem dL_law_364 : decode cL_law 364 = .ok (.iconst 1, 1) := by decide +kernel
theorem dL_law_365 : decode cL_law 365 = .ok (.iadd, 1) := by decide +kernel
theorem dL_law_366 : decode cL_law 366 = .ok (.iaload, 1) := by decide +kernel
theorem dL_law_367 : decode cL_law 367 = .ok (.invokevirtual 35, 3) := by decide +kernel
theorem dL_law_370 : decode cL_law 370 = .ok (.if_icmp .eq 829, 3) := by decide +kernel
theorem dL_law_373 : decode cL_law 373 = .ok (.iconst 0, 1) := by decide +kernel
theorem dL_law_374 : decode cL_law 374 = .ok (.ireturn, 1) := by decide +kernel
theorem dL_law_375 : decode cL_law 375 = .ok (.aload_n 1, 1) := by decide +kernel
theorem dL_law_376 : decode cL_law 376 = .ok (.invokevirtual 36, 3) := by decide +kernel
theorem dL_law_379 : decode cL_law 379 = .ok (.aload_n 2, 1) := by decide +kernel
theorem dL_law_380 : decode cL_law 380 = .ok (.invokevirtual 40, 3) := by decide +kernel
theorem dL_law_383 : decode cL_law 383 = .ok (.if_icmp .eq 816, 3) := by decide +kernel
theorem dL_law_386 : decode cL_law 386 = .ok (.iconst 0, 1) := by decide +kernel
theorem dL_law_387 : decode cL_law 387 = .ok (.ireturn, 1) := by decide +kernel
theorem dL_law_388 : decode cL_law 388 = .ok (.aload_n 1, 1) := by decide +kernel
theorem dL_law_389 : decode cL_law 389 = .ok (.invokevirtual 41, 3) := by decide +kernel
theorem dL_law_392 : decode cL_law 392 = .ok (.aload_n 2, 1) := by decide +kernel
theorem dL_law_393 : decode cL_law 393 = .ok (.invokevirtual 44, 3) := by decide +kernel
theorem dL_law_396 : decode cL_law 396 = .ok (.if_icmp .eq 803, 3) := by decide +kernel
theorem dL_law_399 : decode cL_law 399 = .ok (.iconst 0, 1) := by decide +kernel
theorem dL_law_400 : decode cL_law 400 = .ok (.ireturn, 1) := by decide +kernel
theorem dL_law_401 : decode cL_law 401 = .ok (.aload_n 1, 1) := by decide +kernel
theorem dL_law_402 : decode cL_law 402 = .ok (.aload_n 0, 1) := by decide +kernel
theorem dL_law_403 : decode cL_law 403 = .ok (.iload_n 3, 1) := by decide +kernel
theorem dL_law_404 : decode cL_law 404 = .ok (.iconst 1, 1) := by decide +kernel
theorem dL_law_405 : decode cL_law 405 = .ok (.iadd, 1) := by decide +kernel
theorem dL_law_406 : decode cL_law 406 = .ok (.iaload, 1) := by decide +kernel
theorem dL_law_407 : decode cL_law 407 = .ok (.invokevirtual 45, 3) := by decide +kernel
theorem dL_law_410 : decode cL_law 410 = .ok (.aload_n 2, 1) := by decide +kernel
theorem dL_law_411 : decode cL_law 411 = .ok (.aload_n 0, 1) := by decide +kernel
theorem dL_law_412 : decode cL_law 412 = .ok (.iload_n 3, 1) := by decide +kernel
theorem dL_law_413 : decode cL_law 413 = .ok (.iconst 1, 1) := by decide +kernel
theorem dL_law_414 : decode cL_law 414 = .ok (.iadd, 1) := by decide +kernel
theorem dL_law_415 : decode cL_law 415 = .ok (.iaload, 1) := by decide +kernel
theorem dL_law_416 : decode cL_law 416 = .ok (.invokevirtual 48, 3) := by decide +kernel
theorem dL_law_419 : decode cL_law 419 = .ok (.if_icmp .eq 780, 3) := by decide +kernel
theorem dL_law_422 : decode cL_law 422 = .ok (.iconst 0, 1) := by decide +kernel
theorem dL_law_423 : decode cL_law 423 = .ok (.ireturn, 1) := by decide +kernel
theorem dL_law_424 : decode cL_law 424 = .ok (.aload_n 1, 1) := by decide +kernel
theorem dL_law_425 : decode cL_law 425 = .ok (.aload_n 0, 1) := by decide +kernel
theorem dL_law_426 : decode cL_law 426 = .ok (.iload_n 3, 1) := by decide +kernel
theorem dL_law_427 : decode cL_law 427 = .ok (.iconst 1, 1) := by decide +kernel
theorem dL_law_428 : decode cL_law 428 = .ok (.iadd, 1) := by decide +kernel
theorem dL_law_429 : decode cL_law 429 = .ok (.iaload, 1) := by decide +kernel
theorem dL_law_430 : decode cL_law 430 = .ok (.aload_n 0, 1) := by decide +kernel
theorem dL_law_431 : decode cL_law 431 = .ok (.iload_n 3, 1) := by decide +kernel
theorem dL_law_432 : decode cL_law 432 = .ok (.iconst 2, 1) := by decide +kernel
theorem dL_law_433 : decode cL_law 433 = .ok (.iadd, 1) := by decide +kernel
theorem dL_law_434 : decode cL_law 434 = .ok (.iaload, 1) := by decide +kernel
theorem dL_law_435 : decode cL_law 435 = .ok (.aload_n 0, 1) := by decide +kernel
theorem dL_law_436 : decode cL_law 436 = .ok (.iload_n 3, 1) := by decide +kernel
theorem dL_law_437 : decode cL_law 437 = .ok (.iconst 3, 1) := by decide +kernel
theorem dL_law_438 : decode cL_law 438 = .ok (.iadd, 1) := by decide +kernel
theorem dL_law_439 : decode cL_law 439 = .ok (.iaload, 1) := by decide +kernel
theorem dL_law_440 : decode cL_law 440 = .ok (.invokevirtual 49, 3) := by decide +kernel
theorem dL_law_443 : decode cL_law 443 = .ok (.aload_n 2, 1) := by decide +kernel
theorem dL_law_444 : decode cL_law 444 = .ok (.aload_n 0, 1) := by decide +kernel
theorem dL_law_445 : decode cL_law 445 = .ok (.iload_n 3, 1) := by decide +kernel
theorem dL_law_446 : decode cL_law 446 = .ok (.iconst 1, 1) := by decide +kernel
theorem dL_law_447 : decode cL_law 447 = .ok (.iadd, 1) := by decide +kernel
theorem dL_law_448 : decode cL_law 448 = .ok (.iaload, 1) := by decide +kernel
theorem dL_law_449 : decode cL_law 449 = .ok (.aload_n 0, 1) := by decide +kernel
theorem dL_law_450 : decode cL_law 450 = .ok (.iload_n 3, 1) := by decide +kernel
theorem dL_law_451 : decode cL_law 451 = .ok (.iconst 2, 1) := by decide +kernel
theorem dL_law_452 : decode cL_law 452 = .ok (.iadd, 1) := by decide +kernel
theorem dL_law_453 : decode cL_law 453 = .ok (.iaload, 1) := by decide +kernel
theorem dL_law_454 : decode cL_law 454 = .ok (.aload_n 0, 1) := by decide +kernel
theorem dL_law_455 : decode cL_law 455 = .ok (.iload_n 3, 1) := by decide +kernel
theorem dL_law_456 : decode cL_law 456 = .ok (.iconst 3, 1) := by decide +kernel
theorem dL_law_457 : decode cL_law 457 = .ok (.iadd, 1) := by decide +kernel
theorem dL_law_458 : decode cL_law 458 = .ok (.iaload, 1) := by decide +kernel
theorem dL_law_459 : decode cL_law 459 = .ok (.invokevirtual 52, 3) := by decide +kernel
theorem dL_law_462 : decode cL_law 462 = .ok (.if_icmp .eq 737, 3) := by decide +kernel
theorem dL_law_465 : decode cL_law 465 = .ok (.iconst 0, 1) := by decide +kernel
theorem dL_law_466 : decode cL_law 466 = .ok (.ireturn, 1) := by decide +kernel
theorem dL_law_467 : decode cL_law 467 = .ok (.aload_n 1, 1) := by decide +kernel
theorem dL_law_468 : decode cL_law 468 = .ok (.aload_n 0, 1) := by decide +kernel
theorem dL_law_469 : decode cL_law 469 = .ok (.iload_n 3, 1) := by decide +kernel
theorem dL_law_470 : decode cL_law 470 = .ok (.iconst 1, 1) := by decide +kernel
theorem dL_law_471 : decode cL_law 471 = .ok (.iadd, 1) := by decide +kernel
theorem dL_law_472 : decode cL_law 472 = .ok (.iaload, 1) := by decide +kernel
theorem dL_law_473 : decode cL_law 473 = .ok (.aload_n 0, 1) := by decide +kernel
theorem dL_law_474 : decode cL_law 474 = .ok (.iload_n 3, 1) := by decide +kernel
theorem dL_law_475 : decode cL_law 475 = .ok (.iconst 2, 1) := by decide +kernel
theorem dL_law_476 : decode cL_law 476 = .ok (.iadd, 1) := by decide +kernel
theorem dL_law_477 : decode cL_law 477 = .ok (.iaload, 1) := by decide +kernel
theorem dL_law_478 : decode cL_law 478 = .ok (.invokevirtual 53, 3) := by decide +kernel
theorem dL_law_481 : decode cL_law 481 = .ok (.aload_n 2, 1) := by decide +kernel
theorem dL_law_482 : decode cL_law 482 = .ok (.aload_n 0, 1) := by decide +kernel
theorem dL_law_483 : decode cL_law 483 = .ok (.iload_n 3, 1) := by decide +kernel
theorem dL_law_484 : decode cL_law 484 = .ok (.iconst 1, 1) := by decide +kernel
theorem dL_law_485 : decode cL_law 485 = .ok (.iadd, 1) := by decide +kernel
theorem dL_law_486 : decode cL_law 486 = .ok (.iaload, 1) := by decide +kernel
theorem dL_law_487 : decode cL_law 487 = .ok (.aload_n 0, 1) := by decide +kernel
theorem dL_law_488 : decode cL_law 488 = .ok (.iload_n 3, 1) := by decide +kernel
theorem dL_law_489 : decode cL_law 489 = .ok (.iconst 2, 1) := by decide +kernel
theorem dL_law_490 : decode cL_law 490 = .ok (.iadd, 1) := by decide +kernel
theorem dL_law_491 : decode cL_law 491 = .ok (.iaload, 1) := by decide +kernel
theorem dL_law_492 : decode cL_law 492 = .ok (.invokevirtual 57, 3) := by decide +kernel
theorem dL_law_495 : decode cL_law 495 = .ok (.if_icmp .eq 704, 3) := by decide +kernel
theorem dL_law_498 : decode cL_law 498 = .ok (.iconst 0, 1) := by decide +kernel
theorem dL_law_499 : decode cL_law 499 = .ok (.ireturn, 1) := by decide +kernel
theorem dL_law_500 : decode cL_law 500 = .ok (.aload_n 1, 1) := by decide +kernel
theorem dL_law_501 : decode cL_law 501 = .ok (.aload_n 0, 1) := by decide +kernel
theorem dL_law_502 : decode cL_law 502 = .ok (.iload_n 3, 1) := by decide +kernel
theorem dL_law_503 : decode cL_law 503 = .ok (.iconst 1, 1) := by decide +kernel
theorem dL_law_504 : decode cL_law 504 = .ok (.iadd, 1) := by decide +kernel
theorem dL_law_505 : decode cL_law 505 = .ok (.iaload, 1) := by decide +kernel
theorem dL_law_506 : decode cL_law 506 = .ok (.invokevirtual 58, 3) := by decide +kernel
theorem dL_law_509 : decode cL_law 509 = .ok (.aload_n 2, 1) := by decide +kernel
theorem dL_law_510 : decode cL_law 510 = .ok (.aload_n 0, 1) := by decide +kernel
theorem dL_law_511 : decode cL_law 511 = .ok (.iload_n 3, 1) := by decide +kernel
theorem dL_law_512 : decode cL_law 512 = .ok (.iconst 1, 1) := by decide +kernel
theorem dL_law_513 : decode cL_law 513 = .ok (.iadd, 1) := by decide +kernel
theorem dL_law_514 : decode cL_law 514 = .ok (.iaload, 1) := by decide +kernel
theorem dL_law_515 : decode cL_law 515 = .ok (.invokevirtual 61, 3) := by decide +kernel
theorem dL_law_518 : decode cL_law 518 = .ok (.if_icmp .eq 681, 3) := by decide +kernel
theorem dL_law_521 : decode cL_law 521 = .ok (.iconst 0, 1) := by decide +kernel
theorem dL_law_522 : decode cL_law 522 = .ok (.ireturn, 1) := by decide +kernel
theorem dL_law_523 : decode cL_law 523 = .ok (.aload_n 1, 1) := by decide +kernel
theorem dL_law_524 : decode cL_law 524 = .ok (.invokevirtual 62, 3) := by decide +kernel
theorem dL_law_527 : decode cL_law 527 = .ok (.aload_n 2, 1) := by decide +kernel
theorem dL_law_528 : decode cL_law 528 = .ok (.invokevirtual 65, 3) := by decide +kernel
theorem dL_law_531 : decode cL_law 531 = .ok (.if_icmp .eq 668, 3) := by decide +kernel
theorem dL_law_534 : decode cL_law 534 = .ok (.iconst 0, 1) := by decide +kernel
theorem dL_law_535 : decode cL_law 535 = .ok (.ireturn, 1) := by decide +kernel
theorem dL_law_536 : decode cL_law 536 = .ok (.aload_n 1, 1) := by decide +kernel
theorem dL_law_537 : decode cL_law 537 = .ok (.aload_n 0, 1) := by decide +kernel
theorem dL_law_538 : decode cL_law 538 = .ok (.iload_n 3, 1) := by decide +kernel
theorem dL_law_539 : decode cL_law 539 = .ok (.iconst 1, 1) := by decide +kernel
theorem dL_law_540 : decode cL_law 540 = .ok (.iadd, 1) := by decide +kernel
theorem dL_law_541 : decode cL_law 541 = .ok (.iaload, 1) := by decide +kernel
theorem dL_law_542 : decode cL_law 542 = .ok (.aload_n 0, 1) := by decide +kernel
theorem dL_law_543 : decode cL_law 543 = .ok (.iload_n 3, 1) := by decide +kernel
theorem dL_law_544 : decode cL_law 544 = .ok (.iconst 2, 1) := by decide +kernel
theorem dL_law_545 : decode cL_law 545 = .ok (.iadd, 1) := by decide +kernel
theorem dL_law_546 : decode cL_law 546 = .ok (.iaload, 1) := by decide +kernel
theorem dL_law_547 : decode cL_law 547 = .ok (.invokevirtual 66, 3) := by decide +kernel
theorem dL_law_550 : decode cL_law 550 = .ok (.aload_n 2, 1) := by decide +kernel
theorem dL_law_551 : decode cL_law 551 = .ok (.aload_n 0, 1) := by decide +kernel
theorem dL_law_552 : decode cL_law 552 = .ok (.iload_n 3, 1) := by decide +kernel
theorem dL_law_553 : decode cL_law 553 = .ok (.iconst 1, 1) := by decide +kernel
theorem dL_law_554 : decode cL_law 554 = .ok (.iadd, 1) := by decide +kernel
theorem dL_law_555 : decode cL_law 555 = .ok (.iaload, 1) := by decide +kernel
theorem dL_law_556 : decode cL_law 556 = .ok (.aload_n 0, 1) := by decide +kernel
theorem dL_law_557 : decode cL_law 557 = .ok (.iload_n 3, 1) := by decide +kernel
theorem dL_law_558 : decode cL_law 558 = .ok (.iconst 2, 1) := by decide +kernel
theorem dL_law_559 : decode cL_law 559 = .ok (.iadd, 1) := by decide +kernel
theorem dL_law_560 : decode cL_law 560 = .ok (.iaload, 1) := by decide +kernel
theorem dL_law_561 : decode cL_law 561 = .ok (.invokevirtual 69, 3) := by decide +kernel
theorem dL_law_564 : decode cL_law 564 = .ok (.if_icmp .eq 635, 3) := by decide +kernel
theorem dL_law_567 : decode cL_law 567 = .ok (.iconst 0, 1) := by decide +kernel
theorem dL_law_568 : decode cL_law 568 = .ok (.ireturn, 1) := by decide +kernel
theorem dL_law_569 : decode cL_law 569 = .ok (.aload_n 1, 1) := by decide +kernel
theorem dL_law_570 : decode cL_law 570 = .ok (.aload_n 0, 1) := by decide +kernel
theorem dL_law_571 : decode cL_law 571 = .ok (.iload_n 3, 1) := by decide +kernel
theorem dL_law_572 : decode cL_law 572 = .ok (.iconst 1, 1) := by decide +kernel
theorem dL_law_573 : decode cL_law 573 = .ok (.iadd, 1) := by decide +kernel
theorem dL_law_574 : decode cL_law 574 = .ok (.iaload, 1) := by decide +kernel
theorem dL_law_575 : decode cL_law 575 = .ok (.aload_n 0, 1) := by decide +kernel
theorem dL_law_576 : decode cL_law 576 = .ok (.iload_n 3, 1) := by decide +kernel
theorem dL_law_577 : decode cL_law 577 = .ok (.iconst 2, 1) := by decide +kernel
theorem dL_law_578 : decode cL_law 578 = .ok (.iadd, 1) := by decide +kernel
theorem dL_law_579 : decode cL_law 579 = .ok (.iaload, 1) := by decide +kernel
theorem dL_law_580 : decode cL_law 580 = .ok (.invokevirtual 70, 3) := by decide +kernel
theorem dL_law_583 : decode cL_law 583 = .ok (.aload_n 2, 1) := by decide +kernel
theorem dL_law_584 : decode cL_law 584 = .ok (.aload_n 0, 1) := by decide +kernel
theorem dL_law_585 : decode cL_law 585 = .ok (.iload_n 3, 1) := by decide +kernel
theorem dL_law_586 : decode cL_law 586 = .ok (.iconst 1, 1) := by decide +kernel
theorem dL_law_587 : decode cL_law 587 = .ok (.iadd, 1) := by decide +kernel
theorem dL_law_588 : decode cL_law 588 = .ok (.iaload, 1) := by decide +kernel
theorem dL_law_589 : decode cL_law 589 = .ok (.aload_n 0, 1) := by decide +kernel
theorem dL_law_590 : decode cL_law 590 = .ok (.iload_n 3, 1) := by decide +kernel
theorem dL_law_591 : decode cL_law 591 = .ok (.iconst 2, 1) := by decide +kernel
theorem dL_law_592 : decode cL_law 592 = .ok (.iadd, 1) := by decide +kernel
theorem dL_law_593 : decode cL_law 593 = .ok (.iaload, 1) := by decide +kernel
theorem dL_law_594 : decode cL_law 594 = .ok (.invokevirtual 73, 3) := by decide +kernel
theorem dL_law_597 : decode cL_law 597 = .ok (.if_icmp .eq 602, 3) := by decide +kernel
theorem dL_law_600 : decode cL_law 600 = .ok (.iconst 0, 1) := by decide +kernel
theorem dL_law_601 : decode cL_law 601 = .ok (.ireturn, 1) := by decide +kernel
theorem dL_law_602 : decode cL_law 602 = .ok (.aload_n 1, 1) := by decide +kernel
theorem dL_law_603 : decode cL_law 603 = .ok (.aload_n 0, 1) := by decide +kernel
theorem dL_law_604 : decode cL_law 604 = .ok (.iload_n 3, 1) := by decide +kernel
theorem dL_law_605 : decode cL_law 605 = .ok (.iconst 1, 1) := by decide +kernel
theorem dL_law_606 : decode cL_law 606 = .ok (.iadd, 1) := by decide +kernel
theorem dL_law_607 : decode cL_law 607 = .ok (.iaload, 1) := by decide +kernel
theorem dL_law_608 : decode cL_law 608 = .ok (.aload_n 0, 1) := by decide +kernel
theorem dL_law_609 : decode cL_law 609 = .ok (.iload_n 3, 1) := by decide +kernel
theorem dL_law_610 : decode cL_law 610 = .ok (.iconst 2, 1) := by decide +kernel
theorem dL_law_611 : decode cL_law 611 = .ok (.iadd, 1) := by decide +kernel
theorem dL_law_612 : decode cL_law 612 = .ok (.iaload, 1) := by decide +kernel
theorem dL_law_613 : decode cL_law 613 = .ok (.aload_n 0, 1) := by decide +kernel
theorem dL_law_614 : decode cL_law 614 = .ok (.iload_n 3, 1) := by decide +kernel
theorem dL_law_615 : decode cL_law 615 = .ok (.iconst 3, 1) := by decide +kernel
theorem dL_law_616 : decode cL_law 616 = .ok (.iadd, 1) := by decide +kernel
theorem dL_law_617 : decode cL_law 617 = .ok (.iaload, 1) := by decide +kernel
theorem dL_law_618 : decode cL_law 618 = .ok (.invokevirtual 74, 3) := by decide +kernel
theorem dL_law_621 : decode cL_law 621 = .ok (.aload_n 2, 1) := by decide +kernel
theorem dL_law_622 : decode cL_law 622 = .ok (.aload_n 0, 1) := by decide +kernel
theorem dL_law_623 : decode cL_law 623 = .ok (.iload_n 3, 1) := by decide +kernel
theorem dL_law_624 : decode cL_law 624 = .ok (.iconst 1, 1) := by decide +kernel
theorem dL_law_625 : decode cL_law 625 = .ok (.iadd, 1) := by decide +kernel
theorem dL_law_626 : decode cL_law 626 = .ok (.iaload, 1) := by decide +kernel
theorem dL_law_627 : decode cL_law 627 = .ok (.aload_n 0, 1) := by decide +kernel
theorem dL_law_628 : decode cL_law 628 = .ok (.iload_n 3, 1) := by decide +kernel
theorem dL_law_629 : decode cL_law 629 = .ok (.iconst 2, 1) := by decide +kernel
theorem dL_law_630 : decode cL_law 630 = .ok (.iadd, 1) := by decide +kernel
theorem dL_law_631 : decode cL_law 631 = .ok (.iaload, 1) := by decide +kernel
theorem dL_law_632 : decode cL_law 632 = .ok (.aload_n 0, 1) := by decide +kernel
theorem dL_law_633 : decode cL_law 633 = .ok (.iload_n 3, 1) := by decide +kernel
theorem dL_law_634 : decode cL_law 634 = .ok (.iconst 3, 1) := by decide +kernel
theorem dL_law_635 : decode cL_law 635 = .ok (.iadd, 1) := by decide +kernel
theorem dL_law_636 : decode cL_law 636 = .ok (.iaload, 1) := by decide +kernel
theorem dL_law_637 : decode cL_law 637 = .ok (.invokevirtual 77, 3) := by decide +kernel
theorem dL_law_640 : decode cL_law 640 = .ok (.if_icmp .eq 559, 3) := by decide +kernel
theorem dL_law_643 : decode cL_law 643 = .ok (.iconst 0, 1) := by decide +kernel
theorem dL_law_644 : decode cL_law 644 = .ok (.ireturn, 1) := by decide +kernel
theorem dL_law_645 : decode cL_law 645 = .ok (.aload_n 1, 1) := by decide +kernel
theorem dL_law_646 : decode cL_law 646 = .ok (.aload_n 0, 1) := by decide +kernel
theorem dL_law_647 : decode cL_law 647 = .ok (.iload_n 3, 1) := by decide +kernel
theorem dL_law_648 : decode cL_law 648 = .ok (.iconst 1, 1) := by decide +kernel
theorem dL_law_649 : decode cL_law 649 = .ok (.iadd, 1) := by decide +kernel
theorem dL_law_650 : decode cL_law 650 = .ok (.iaload, 1) := by decide +kernel
theorem dL_law_651 : decode cL_law 651 = .ok (.invokevirtual 78, 3) := by decide +kernel
theorem dL_law_654 : decode cL_law 654 = .ok (.aload_n 2, 1) := by decide +kernel
theorem dL_law_655 : decode cL_law 655 = .ok (.aload_n 0, 1) := by decide +kernel
theorem dL_law_656 : decode cL_law 656 = .ok (.iload_n 3, 1) := by decide +kernel
theorem dL_law_657 : decode cL_law 657 = .ok (.iconst 1, 1) := by decide +kernel
theorem dL_law_658 : decode cL_law 658 = .ok (.iadd, 1) := by decide +kernel
theorem dL_law_659 : decode cL_law 659 = .ok (.iaload, 1) := by decide +kernel
theorem dL_law_660 : decode cL_law 660 = .ok (.invokevirtual 81, 3) := by decide +kernel
theorem dL_law_663 : decode cL_law 663 = .ok (.if_icmp .eq 536, 3) := by decide +kernel
theorem dL_law_666 : decode cL_law 666 = .ok (.iconst 0, 1) := by decide +kernel
theorem dL_law_667 : decode cL_law 667 = .ok (.ireturn, 1) := by decide +kernel
theorem dL_law_668 : decode cL_law 668 = .ok (.aload_n 1, 1) := by decide +kernel
theorem dL_law_669 : decode cL_law 669 = .ok (.aload_n 0, 1) := by decide +kernel
theorem dL_law_670 : decode cL_law 670 = .ok (.iload_n 3, 1) := by decide +kernel
theorem dL_law_671 : decode cL_law 671 = .ok (.iconst 1, 1) := by decide +kernel
theorem dL_law_672 : decode cL_law 672 = .ok (.iadd, 1) := by decide +kernel
theorem dL_law_673 : decode cL_law 673 = .ok (.iaload, 1) := by decide +kernel
theorem dL_law_674 : decode cL_law 674 = .ok (.invokevirtual 82, 3) := by decide +kernel
theorem dL_law_677 : decode cL_law 677 = .ok (.aload_n 2, 1) := by decide +kernel
theorem dL_law_678 : decode cL_law 678 = .ok (.aload_n 0, 1) := by decide +kernel
theorem dL_law_679 : decode cL_law 679 = .ok (.iload_n 3, 1) := by decide +kernel
theorem dL_law_680 : decode cL_law 680 = .ok (.iconst 1, 1) := by decide +kernel
theorem dL_law_681 : decode cL_law 681 = .ok (.iadd, 1) := by decide +kernel
theorem dL_law_682 : decode cL_law 682 = .ok (.iaload, 1) := by decide +kernel
theorem dL_law_683 : decode cL_law 683 = .ok (.invokevirtual 85, 3) := by decide +kernel
theorem dL_law_686 : decode cL_law 686 = .ok (.if_icmp .eq 513, 3) := by decide +kernel
theorem dL_law_689 : decode cL_law 689 = .ok (.iconst 0, 1) := by decide +kernel
theorem dL_law_690 : decode cL_law 690 = .ok (.ireturn, 1) := by decide +kernel
theorem dL_law_691 : decode cL_law 691 = .ok (.aload_n 1, 1) := by decide +kernel
theorem dL_law_692 : decode cL_law 692 = .ok (.invokevirtual 86, 3) := by decide +kernel
theorem dL_law_695 : decode cL_law 695 = .ok (.aload_n 2, 1) := by decide +kernel
theorem dL_law_696 : decode cL_law 696 = .ok (.invokevirtual 89, 3) := by decide +kernel
theorem dL_law_699 : decode cL_law 699 = .ok (.if_icmp .eq 500, 3) := by decide +kernel
theorem dL_law_702 : decode cL_law 702 = .ok (.iconst 0, 1) := by decide +kernel
theorem dL_law_703 : decode cL_law 703 = .ok (.ireturn, 1) := by decide +kernel
theorem dL_law_704 : decode cL_law 704 = .ok (.aload_n 1, 1) := by decide +kernel
theorem dL_law_705 : decode cL_law 705 = .ok (.aload_n 0, 1) := by decide +kernel
theorem dL_law_706 : decode cL_law 706 = .ok (.iload_n 3, 1) := by decide +kernel
theorem dL_law_707 : decode cL_law 707 = .ok (.iconst 1, 1) := by decide +kernel
theorem dL_law_708 : decode cL_law 708 = .ok (.iadd, 1) := by decide +kernel
theorem dL_law_709 : decode cL_law 709 = .ok (.iaload, 1) := by decide +kernel
theorem dL_law_710 : decode cL_law 710 = .ok (.aload_n 0, 1) := by decide +kernel
theorem dL_law_711 : decode cL_law 711 = .ok (.iload_n 3, 1) := by decide +kernel
theorem dL_law_712 : decode cL_law 712 = .ok (.iconst 2, 1) := by decide +kernel
theorem dL_law_713 : decode cL_law 713 = .ok (.iadd, 1) := by decide +kernel
theorem dL_law_714 : decode cL_law 714 = .ok (.iaload, 1) := by decide +kernel
theorem dL_law_715 : decode cL_law 715 = .ok (.invokevirtual 90, 3) := by decide +kernel
theorem dL_law_718 : decode cL_law 718 = .ok (.aload_n 2, 1) := by decide +kernel
theorem dL_law_719 : decode cL_law 719 = .ok (.aload_n 0, 1) := by decide +kernel
theorem dL_law_720 : decode cL_law 720 = .ok (.iload_n 3, 1) := by decide +kernel
theorem dL_law_721 : decode cL_law 721 = .ok (.iconst 1, 1) := by decide +kernel
theorem dL_law_722 : decode cL_law 722 = .ok (.iadd, 1) := by decide +kernel
theorem dL_law_723 : decode cL_law 723 = .ok (.iaload, 1) := by decide +kernel
theorem dL_law_724 : decode cL_law 724 = .ok (.aload_n 0, 1) := by decide +kernel
theorem dL_law_725 : decode cL_law 725 = .ok (.iload_n 3, 1) := by decide +kernel
theorem dL_law_726 : decode cL_law 726 = .ok (.iconst 2, 1) := by decide +kernel
theorem dL_law_727 : decode cL_law 727 = .ok (.iadd, 1) := by decide +kernel
theorem dL_law_728 : decode cL_law 728 = .ok (.iaload, 1) := by decide +kernel
theorem dL_law_729 : decode cL_law 729 = .ok (.invokevirtual 93, 3) := by decide +kernel
theorem dL_law_732 : decode cL_law 732 = .ok (.if_icmp .eq 467, 3) := by decide +kernel
theorem dL_law_735 : decode cL_law 735 = .ok (.iconst 0, 1) := by decide +kernel
theorem dL_law_736 : decode cL_law 736 = .ok (.ireturn, 1) := by decide +kernel
theorem dL_law_737 : decode cL_law 737 = .ok (.aload_n 1, 1) := by decide +kernel
theorem dL_law_738 : decode cL_law 738 = .ok (.aload_n 0, 1) := by decide +kernel
theorem dL_law_739 : decode cL_law 739 = .ok (.iload_n 3, 1) := by decide +kernel
theorem dL_law_740 : decode cL_law 740 = .ok (.iconst 1, 1) := by decide +kernel
theorem dL_law_741 : decode cL_law 741 = .ok (.iadd, 1) := by decide +kernel
theorem dL_law_742 : decode cL_law 742 = .ok (.iaload, 1) := by decide +kernel
theorem dL_law_743 : decode cL_law 743 = .ok (.aload_n 0, 1) := by decide +kernel
theorem dL_law_744 : decode cL_law 744 = .ok (.iload_n 3, 1) := by decide +kernel
theorem dL_law_745 : decode cL_law 745 = .ok (.iconst 2, 1) := by decide +kernel
theorem dL_law_746 : decode cL_law 746 = .ok (.iadd, 1) := by decide +kernel
theorem dL_law_747 : decode cL_law 747 = .ok (.iaload, 1) := by decide +kernel
theorem dL_law_748 : decode cL_law 748 = .ok (.invokevirtual 94, 3) := by decide +kernel
theorem dL_law_751 : decode cL_law 751 = .ok (.aload_n 2, 1) := by decide +kernel
theorem dL_law_752 : decode cL_law 752 = .ok (.aload_n 0, 1) := by decide +kernel
theorem dL_law_753 : decode cL_law 753 = .ok (.iload_n 3, 1) := by decide +kernel
theorem dL_law_754 : decode cL_law 754 = .ok (.iconst 1, 1) := by decide +kernel
theorem dL_law_755 : decode cL_law 755 = .ok (.iadd, 1) := by decide +kernel
theorem dL_law_756 : decode cL_law 756 = .ok (.iaload, 1) := by decide +kernel
theorem dL_law_757 : decode cL_law 757 = .ok (.aload_n 0, 1) := by decide +kernel
theorem dL_law_758 : decode cL_law 758 = .ok (.iload_n 3, 1) := by decide +kernel
theorem dL_law_759 : decode cL_law 759 = .ok (.iconst 2, 1) := by decide +kernel
theorem dL_law_760 : decode cL_law 760 = .ok (.iadd, 1) := by decide +kernel
theorem dL_law_761 : decode cL_law 761 = .ok (.iaload, 1) := by decide +kernel
theorem dL_law_762 : decode cL_law 762 = .ok (.invokevirtual 97, 3) := by decide +kernel
theorem dL_law_765 : decode cL_law 765 = .ok (.if_icmp .eq 434, 3) := by decide +kernel
theorem dL_law_768 : decode cL_law 768 = .ok (.iconst 0, 1) := by decide +kernel
theorem dL_law_769 : decode cL_law 769 = .ok (.ireturn, 1) := by decide +kernel
theorem dL_law_770 : decode cL_law 770 = .ok (.aload_n 1, 1) := by decide +kernel
theorem dL_law_771 : decode cL_law 771 = .ok (.aload_n 0, 1) := by decide +kernel
theorem dL_law_772 : decode cL_law 772 = .ok (.iload_n 3, 1) := by decide +kernel
theorem dL_law_773 : decode cL_law 773 = .ok (.iconst 1, 1) := by decide +kernel
theorem dL_law_774 : decode cL_law 774 = .ok (.iadd, 1) := by decide +kernel
theorem dL_law_775 : decode cL_law 775 = .ok (.iaload, 1) := by decide +kernel
theorem dL_law_776 : decode cL_law 776 = .ok (.aload_n 0, 1) := by decide +kernel
theorem dL_law_777 : decode cL_law 777 = .ok (.iload_n 3, 1) := by decide +kernel
theorem dL_law_778 : decode cL_law 778 = .ok (.iconst 2, 1) := by decide +kernel
theorem dL_law_779 : decode cL_law 779 = .ok (.iadd, 1) := by decide +kernel
theorem dL_law_780 : decode cL_law 780 = .ok (.iaload, 1) := by decide +kernel
theorem dL_law_781 : decode cL_law 781 = .ok (.aload_n 0, 1) := by decide +kernel
theorem dL_law_782 : decode cL_law 782 = .ok (.iload_n 3, 1) := by decide +kernel
theorem dL_law_783 : decode cL_law 783 = .ok (.iconst 3, 1) := by decide +kernel
theorem dL_law_784 : decode cL_law 784 = .ok (.iadd, 1) := by decide +kernel
theorem dL_law_785 : decode cL_law 785 = .ok (.iaload, 1) := by decide +kernel
theorem dL_law_786 : decode cL_law 786 = .ok (.invokevirtual 98, 3) := by decide +kernel
theorem dL_law_789 : decode cL_law 789 = .ok (.aload_n 2, 1) := by decide +kernel
theorem dL_law_790 : decode cL_law 790 = .ok (.aload_n 0, 1) := by decide +kernel
theorem dL_law_791 : decode cL_law 791 = .ok (.iload_n 3, 1) := by decide +kernel
theorem dL_law_792 : decode cL_law 792 = .ok (.iconst 1, 1) := by decide +kernel
theorem dL_law_793 : decode cL_law 793 = .ok (.iadd, 1) := by decide +kernel
theorem dL_law_794 : decode cL_law 794 = .ok (.iaload, 1) := by decide +kernel
theorem dL_law_795 : decode cL_law 795 = .ok (.aload_n 0, 1) := by decide +kernel
theorem dL_law_796 : decode cL_law 796 = .ok (.iload_n 3, 1) := by decide +kernel
theorem dL_law_797 : decode cL_law 797 = .ok (.iconst 2, 1) := by decide +kernel
theorem dL_law_798 : decode cL_law 798 = .ok (.iadd, 1) := by decide +kernel
theorem dL_law_799 : decode cL_law 799 = .ok (.iaload, 1) := by decide +kernel
theorem dL_law_800 : decode cL_law 800 = .ok (.aload_n 0, 1) := by decide +kernel
theorem dL_law_801 : decode cL_law 801 = .ok (.iload_n 3, 1) := by decide +kernel
theorem dL_law_802 : decode cL_law 802 = .ok (.iconst 3, 1) := by decide +kernel
theorem dL_law_803 : decode cL_law 803 = .ok (.iadd, 1) := by decide +kernel
theorem dL_law_804 : decode cL_law 804 = .ok (.iaload, 1) := by decide +kernel
theorem dL_law_805 : decode cL_law 805 = .ok (.invokevirtual 101, 3) := by decide +kernel
theorem dL_law_808 : decode cL_law 808 = .ok (.if_icmp .eq 391, 3) := by decide +kernel
theorem dL_law_811 : decode cL_law 811 = .ok (.iconst 0, 1) := by decide +kernel
theorem dL_law_812 : decode cL_law 812 = .ok (.ireturn, 1) := by decide +kernel
theorem dL_law_813 : decode cL_law 813 = .ok (.aload_n 1, 1) := by decide +kernel
theorem dL_law_814 : decode cL_law 814 = .ok (.aload_n 0, 1) := by decide +kernel
theorem dL_law_815 : decode cL_law 815 = .ok (.iload_n 3, 1) := by decide +kernel
theorem dL_law_816 : decode cL_law 816 = .ok (.iconst 1, 1) := by decide +kernel
theorem dL_law_817 : decode cL_law 817 = .ok (.iadd, 1) := by decide +kernel
theorem dL_law_818 : decode cL_law 818 = .ok (.iaload, 1) := by decide +kernel
theorem dL_law_819 : decode cL_law 819 = .ok (.aload_n 0, 1) := by decide +kernel
theorem dL_law_820 : decode cL_law 820 = .ok (.iload_n 3, 1) := by decide +kernel
theorem dL_law_821 : decode cL_law 821 = .ok (.iconst 2, 1) := by decide +kernel
theorem dL_law_822 : decode cL_law 822 = .ok (.iadd, 1) := by decide +kernel
theorem dL_law_823 : decode cL_law 823 = .ok (.iaload, 1) := by decide +kernel
theorem dL_law_824 : decode cL_law 824 = .ok (.invokevirtual 102, 3) := by decide +kernel
theorem dL_law_827 : decode cL_law 827 = .ok (.aload_n 2, 1) := by decide +kernel
theorem dL_law_828 : decode cL_law 828 = .ok (.aload_n 0, 1) := by decide +kernel
theorem dL_law_829 : decode cL_law 829 = .ok (.iload_n 3, 1) := by decide +kernel
theorem dL_law_830 : decode cL_law 830 = .ok (.iconst 1, 1) := by decide +kernel
theorem dL_law_831 : decode cL_law 831 = .ok (.iadd, 1) := by decide +kernel
theorem dL_law_832 : decode cL_law 832 = .ok (.iaload, 1) := by decide +kernel
theorem dL_law_833 : decode cL_law 833 = .ok (.aload_n 0, 1) := by decide +kernel
theorem dL_law_834 : decode cL_law 834 = .ok (.iload_n 3, 1) := by decide +kernel
theorem dL_law_835 : decode cL_law 835 = .ok (.iconst 2, 1) := by decide +kernel
theorem dL_law_836 : decode cL_law 836 = .ok (.iadd, 1) := by decide +kernel
theorem dL_law_837 : decode cL_law 837 = .ok (.iaload, 1) := by decide +kernel
theorem dL_law_838 : decode cL_law 838 = .ok (.invokevirtual 105, 3) := by decide +kernel
theorem dL_law_841 : decode cL_law 841 = .ok (.if_icmp .eq 358, 3) := by decide +kernel
theorem dL_law_844 : decode cL_law 844 = .ok (.iconst 0, 1) := by decide +kernel
theorem dL_law_845 : decode cL_law 845 = .ok (.ireturn, 1) := by decide +kernel
theorem dL_law_846 : decode cL_law 846 = .ok (.aload_n 1, 1) := by decide +kernel
theorem dL_law_847 : decode cL_law 847 = .ok (.aload_n 0, 1) := by decide +kernel
theorem dL_law_848 : decode cL_law 848 = .ok (.iload_n 3, 1) := by decide +kernel
theorem dL_law_849 : decode cL_law 849 = .ok (.iconst 1, 1) := by decide +kernel
theorem dL_law_850 : decode cL_law 850 = .ok (.iadd, 1) := by decide +kernel
theorem dL_law_851 : decode cL_law 851 = .ok (.iaload, 1) := by decide +kernel
theorem dL_law_852 : decode cL_law 852 = .ok (.aload_n 0, 1) := by decide +kernel
theorem dL_law_853 : decode cL_law 853 = .ok (.iload_n 3, 1) := by decide +kernel
theorem dL_law_854 : decode cL_law 854 = .ok (.iconst 2, 1) := by decide +kernel
theorem dL_law_855 : decode cL_law 855 = .ok (.iadd, 1) := by decide +kernel
theorem dL_law_856 : decode cL_law 856 = .ok (.iaload, 1) := by decide +kernel
theorem dL_law_857 : decode cL_law 857 = .ok (.aload_n 0, 1) := by decide +kernel
theorem dL_law_858 : decode cL_law 858 = .ok (.iload_n 3, 1) := by decide +kernel
theorem dL_law_859 : decode cL_law 859 = .ok (.iconst 3, 1) := by decide +kernel
theorem dL_law_860 : decode cL_law 860 = .ok (.iadd, 1) := by decide +kernel
theorem dL_law_861 : decode cL_law 861 = .ok (.iaload, 1) := by decide +kernel
theorem dL_law_862 : decode cL_law 862 = .ok (.aload_n 0, 1) := by decide +kernel
theorem dL_law_863 : decode cL_law 863 = .ok (.iload_n 3, 1) := by decide +kernel
theorem dL_law_864 : decode cL_law 864 = .ok (.iconst 4, 1) := by decide +kernel
theorem dL_law_865 : decode cL_law 865 = .ok (.iadd, 1) := by decide +kernel
theorem dL_law_866 : decode cL_law 866 = .ok (.iaload, 1) := by decide +kernel
theorem dL_law_867 : decode cL_law 867 = .ok (.aload_n 0, 1) := by decide +kernel
theorem dL_law_868 : decode cL_law 868 = .ok (.iload_n 3, 1) := by decide +kernel
theorem dL_law_869 : decode cL_law 869 = .ok (.iconst 5, 1) := by decide +kernel
theorem dL_law_870 : decode cL_law 870 = .ok (.iadd, 1) := by decide +kernel
theorem dL_law_871 : decode cL_law 871 = .ok (.iaload, 1) := by decide +kernel
theorem dL_law_872 : decode cL_law 872 = .ok (.invokevirtual 106, 3) := by decide +kernel
theorem dL_law_875 : decode cL_law 875 = .ok (.aload_n 2, 1) := by decide +kernel
theorem dL_law_876 : decode cL_law 876 = .ok (.aload_n 0, 1) := by decide +kernel
theorem dL_law_877 : decode cL_law 877 = .ok (.iload_n 3, 1) := by decide +kernel
theorem dL_law_878 : decode cL_law 878 = .ok (.iconst 1, 1) := by decide +kernel
theorem dL_law_879 : decode cL_law 879 = .ok (.iadd, 1) := by decide +kernel
theorem dL_law_880 : decode cL_law 880 = .ok (.iaload, 1) := by decide +kernel
theorem dL_law_881 : decode cL_law 881 = .ok (.aload_n 0, 1) := by decide +kernel
theorem dL_law_882 : decode cL_law 882 = .ok (.iload_n 3, 1) := by decide +kernel
theorem dL_law_883 : decode cL_law 883 = .ok (.iconst 2, 1) := by decide +kernel
theorem dL_law_884 : decode cL_law 884 = .ok (.iadd, 1) := by decide +kernel
theorem dL_law_885 : decode cL_law 885 = .ok (.iaload, 1) := by decide +kernel
theorem dL_law_886 : decode cL_law 886 = .ok (.aload_n 0, 1) := by decide +kernel
theorem dL_law_887 : decode cL_law 887 = .ok (.iload_n 3, 1) := by decide +kernel
theorem dL_law_888 : decode cL_law 888 = .ok (.iconst 3, 1) := by decide +kernel
theorem dL_law_889 : decode cL_law 889 = .ok (.iadd, 1) := by decide +kernel
theorem dL_law_890 : decode cL_law 890 = .ok (.iaload, 1) := by decide +kernel
theorem dL_law_891 : decode cL_law 891 = .ok (.aload_n 0, 1) := by decide +kernel
theorem dL_law_892 : decode cL_law 892 = .ok (.iload_n 3, 1) := by decide +kernel
theorem dL_law_893 : decode cL_law 893 = .ok (.iconst 4, 1) := by decide +kernel
theorem dL_law_894 : decode cL_law 894 = .ok (.iadd, 1) := by decide +kernel
theorem dL_law_895 : decode cL_law 895 = .ok (.iaload, 1) := by decide +kernel
theorem dL_law_896 : decode cL_law 896 = .ok (.aload_n 0, 1) := by decide +kernel
theorem dL_law_897 : decode cL_law 897 = .ok (.iload_n 3, 1) := by decide +kernel
theorem dL_law_898 : decode cL_law 898 = .ok (.iconst 5, 1) := by decide +kernel
theorem dL_law_899 : decode cL_law 899 = .ok (.iadd, 1) := by decide +kernel
theorem dL_law_900 : decode cL_law 900 = .ok (.iaload, 1) := by decide +kernel
theorem dL_law_901 : decode cL_law 901 = .ok (.invokevirtual 109, 3) := by decide +kernel
theorem dL_law_904 : decode cL_law 904 = .ok (.if_icmp .eq 295, 3) := by decide +kernel
theorem dL_law_907 : decode cL_law 907 = .ok (.iconst 0, 1) := by decide +kernel
theorem dL_law_908 : decode cL_law 908 = .ok (.ireturn, 1) := by decide +kernel
theorem dL_law_909 : decode cL_law 909 = .ok (.aload_n 1, 1) := by decide +kernel
theorem dL_law_910 : decode cL_law 910 = .ok (.aload_n 0, 1) := by decide +kernel
theorem dL_law_911 : decode cL_law 911 = .ok (.iload_n 3, 1) := by decide +kernel
theorem dL_law_912 : decode cL_law 912 = .ok (.iconst 1, 1) := by decide +kernel
theorem dL_law_913 : decode cL_law 913 = .ok (.iadd, 1) := by decide +kernel
theorem dL_law_914 : decode cL_law 914 = .ok (.iaload, 1) := by decide +kernel
theorem dL_law_915 : decode cL_law 915 = .ok (.aload_n 0, 1) := by decide +kernel
theorem dL_law_916 : decode cL_law 916 = .ok (.iload_n 3, 1) := by decide +kernel
theorem dL_law_917 : decode cL_law 917 = .ok (.iconst 2, 1) := by decide +kernel
theorem dL_law_918 : decode cL_law 918 = .ok (.iadd, 1) := by decide +kernel
theorem dL_law_919 : decode cL_law 919 = .ok (.iaload, 1) := by decide +kernel
theorem dL_law_920 : decode cL_law 920 = .ok (.aload_n 0, 1) := by decide +kernel
theorem dL_law_921 : decode cL_law 921 = .ok (.iload_n 3, 1) := by decide +kernel
theorem dL_law_922 : decode cL_law 922 = .ok (.iconst 3, 1) := by decide +kernel
theorem dL_law_923 : decode cL_law 923 = .ok (.iadd, 1) := by decide +kernel
theorem dL_law_924 : decode cL_law 924 = .ok (.iaload, 1) := by decide +kernel
theorem dL_law_925 : decode cL_law 925 = .ok (.aload_n 0, 1) := by decide +kernel
theorem dL_law_926 : decode cL_law 926 = .ok (.iload_n 3, 1) := by decide +kernel
theorem dL_law_927 : decode cL_law 927 = .ok (.iconst 4, 1) := by decide +kernel
theorem dL_law_928 : decode cL_law 928 = .ok (.iadd, 1) := by decide +kernel
theorem dL_law_929 : decode cL_law 929 = .ok (.iaload, 1) := by decide +kernel
theorem dL_law_930 : decode cL_law 930 = .ok (.invokevirtual 110, 3) := by decide +kernel
theorem dL_law_933 : decode cL_law 933 = .ok (.aload_n 2, 1) := by decide +kernel
theorem dL_law_934 : decode cL_law 934 = .ok (.aload_n 0, 1) := by decide +kernel
theorem dL_law_935 : decode cL_law 935 = .ok (.iload_n 3, 1) := by decide +kernel
theorem dL_law_936 : decode cL_law 936 = .ok (.iconst 1, 1) := by decide +kernel
theorem dL_law_937 : decode cL_law 937 = .ok (.iadd, 1) := by decide +kernel
theorem dL_law_938 : decode cL_law 938 = .ok (.iaload, 1) := by decide +kernel
theorem dL_law_939 : decode cL_law 939 = .ok (.aload_n 0, 1) := by decide +kernel
theorem dL_law_940 : decode cL_law 940 = .ok (.iload_n 3, 1) := by decide +kernel
theorem dL_law_941 : decode cL_law 941 = .ok (.iconst 2, 1) := by decide +kernel
theorem dL_law_942 : decode cL_law 942 = .ok (.iadd, 1) := by decide +kernel
theorem dL_law_943 : decode cL_law 943 = .ok (.iaload, 1) := by decide +kernel
theorem dL_law_944 : decode cL_law 944 = .ok (.aload_n 0, 1) := by decide +kernel
theorem dL_law_945 : decode cL_law 945 = .ok (.iload_n 3, 1) := by decide +kernel
theorem dL_law_946 : decode cL_law 946 = .ok (.iconst 3, 1) := by decide +kernel
theorem dL_law_947 : decode cL_law 947 = .ok (.iadd, 1) := by decide +kernel
theorem dL_law_948 : decode cL_law 948 = .ok (.iaload, 1) := by decide +kernel
theorem dL_law_949 : decode cL_law 949 = .ok (.aload_n 0, 1) := by decide +kernel
theorem dL_law_950 : decode cL_law 950 = .ok (.iload_n 3, 1) := by decide +kernel
theorem dL_law_951 : decode cL_law 951 = .ok (.iconst 4, 1) := by decide +kernel
theorem dL_law_952 : decode cL_law 952 = .ok (.iadd, 1) := by decide +kernel
theorem dL_law_953 : decode cL_law 953 = .ok (.iaload, 1) := by decide +kernel
theorem dL_law_954 : decode cL_law 954 = .ok (.invokevirtual 114, 3) := by decide +kernel
theorem dL_law_957 : decode cL_law 957 = .ok (.if_icmp .eq 242, 3) := by decide +kernel
theorem dL_law_960 : decode cL_law 960 = .ok (.iconst 0, 1) := by decide +kernel
theorem dL_law_961 : decode cL_law 961 = .ok (.ireturn, 1) := by decide +kernel
theorem dL_law_962 : decode cL_law 962 = .ok (.aload_n 1, 1) := by decide +kernel
theorem dL_law_963 : decode cL_law 963 = .ok (.aload_n 0, 1) := by decide +kernel
theorem dL_law_964 : decode cL_law 964 = .ok (.iload_n 3, 1) := by decide +kernel
theorem dL_law_965 : decode cL_law 965 = .ok (.iconst 1, 1) := by decide +kernel
theorem dL_law_966 : decode cL_law 966 = .ok (.iadd, 1) := by decide +kernel
theorem dL_law_967 : decode cL_law 967 = .ok (.iaload, 1) := by decide +kernel
theorem dL_law_968 : decode cL_law 968 = .ok (.aload_n 0, 1) := by decide +kernel
theorem dL_law_969 : decode cL_law 969 = .ok (.iload_n 3, 1) := by decide +kernel
theorem dL_law_970 : decode cL_law 970 = .ok (.iconst 2, 1) := by decide +kernel
theorem dL_law_971 : decode cL_law 971 = .ok (.iadd, 1) := by decide +kernel
theorem dL_law_972 : decode cL_law 972 = .ok (.iaload, 1) := by decide +kernel
theorem dL_law_973 : decode cL_law 973 = .ok (.aload_n 0, 1) := by decide +kernel
theorem dL_law_974 : decode cL_law 974 = .ok (.iload_n 3, 1) := by decide +kernel
theorem dL_law_975 : decode cL_law 975 = .ok (.iconst 3, 1) := by decide +kernel
theorem dL_law_976 : decode cL_law 976 = .ok (.iadd, 1) := by decide +kernel
theorem dL_law_977 : decode cL_law 977 = .ok (.iaload, 1) := by decide +kernel
theorem dL_law_978 : decode cL_law 978 = .ok (.invokevirtual 115, 3) := by decide +kernel
theorem dL_law_981 : decode cL_law 981 = .ok (.aload_n 2, 1) := by decide +kernel
theorem dL_law_982 : decode cL_law 982 = .ok (.aload_n 0, 1) := by decide +kernel
theorem dL_law_983 : decode cL_law 983 = .ok (.iload_n 3, 1) := by decide +kernel
theorem dL_law_984 : decode cL_law 984 = .ok (.iconst 1, 1) := by decide +kernel
theorem dL_law_985 : decode cL_law 985 = .ok (.iadd, 1) := by decide +kernel
theorem dL_law_986 : decode cL_law 986 = .ok (.iaload, 1) := by decide +kernel
theorem dL_law_987 : decode cL_law 987 = .ok (.aload_n 0, 1) := by decide +kernel
theorem dL_law_988 : decode cL_law 988 = .ok (.iload_n 3, 1) := by decide +kernel
theorem dL_law_989 : decode cL_law 989 = .ok (.iconst 2, 1) := by decide +kernel
theorem dL_law_990 : decode cL_law 990 = .ok (.iadd, 1) := by decide +kernel
theorem dL_law_991 : decode cL_law 991 = .ok (.iaload, 1) := by decide +kernel
theorem dL_law_992 : decode cL_law 992 = .ok (.aload_n 0, 1) := by decide +kernel
theorem dL_law_993 : decode cL_law 993 = .ok (.iload_n 3, 1) := by decide +kernel
theorem dL_law_994 : decode cL_law 994 = .ok (.iconst 3, 1) := by decide +kernel
theorem dL_law_995 : decode cL_law 995 = .ok (.iadd, 1) := by decide +kernel
theorem dL_law_996 : decode cL_law 996 = .ok (.iaload, 1) := by decide +kernel
theorem dL_law_997 : decode cL_law 997 = .ok (.invokevirtual 118, 3) := by decide +kernel
theorem dL_law_1000 : decode cL_law 1000 = .ok (.if_icmp .eq 199, 3) := by decide +kernel
theorem dL_law_1003 : decode cL_law 1003 = .ok (.iconst 0, 1) := by decide +kernel
theorem dL_law_1004 : decode cL_law 1004 = .ok (.ireturn, 1) := by decide +kernel
theorem dL_law_1005 : decode cL_law 1005 = .ok (.aload_n 1, 1) := by decide +kernel
theorem dL_law_1006 : decode cL_law 1006 = .ok (.aload_n 0, 1) := by decide +kernel
theorem dL_law_1007 : decode cL_law 1007 = .ok (.iload_n 3, 1) := by decide +kernel
theorem dL_law_1008 : decode cL_law 1008 = .ok (.iconst 1, 1) := by decide +kernel
theorem dL_law_1009 : decode cL_law 1009 = .ok (.iadd, 1) := by decide +kernel
theorem dL_law_1010 : decode cL_law 1010 = .ok (.iaload, 1) := by decide +kernel
theorem dL_law_1011 : decode cL_law 1011 = .ok (.invokevirtual 119, 3) := by decide +kernel
theorem dL_law_1014 : decode cL_law 1014 = .ok (.aload_n 2, 1) := by decide +kernel
theorem dL_law_1015 : decode cL_law 1015 = .ok (.aload_n 0, 1) := by decide +kernel
theorem dL_law_1016 : decode cL_law 1016 = .ok (.iload_n 3, 1) := by decide +kernel
theorem dL_law_1017 : decode cL_law 1017 = .ok (.iconst 1, 1) := by decide +kernel
theorem dL_law_1018 : decode cL_law 1018 = .ok (.iadd, 1) := by decide +kernel
theorem dL_law_1019 : decode cL_law 1019 = .ok (.iaload, 1) := by decide +kernel
theorem dL_law_1020 : decode cL_law 1020 = .ok (.invokevirtual 122, 3) := by decide +kernel
theorem dL_law_1023 : decode cL_law 1023 = .ok (.if_icmp .eq 176, 3) := by decide +kernel
theorem dL_law_1026 : decode cL_law 1026 = .ok (.iconst 0, 1) := by decide +kernel
theorem dL_law_1027 : decode cL_law 1027 = .ok (.ireturn, 1) := by decide +kernel
theorem dL_law_1028 : decode cL_law 1028 = .ok (.aload_n 1, 1) := by decide +kernel
theorem dL_law_1029 : decode cL_law 1029 = .ok (.aload_n 0, 1) := by decide +kernel
theorem dL_law_1030 : decode cL_law 1030 = .ok (.iload_n 3, 1) := by decide +kernel
theorem dL_law_1031 : decode cL_law 1031 = .ok (.iconst 1, 1) := by decide +kernel
theorem dL_law_1032 : decode cL_law 1032 = .ok (.iadd, 1) := by decide +kernel
theorem dL_law_1033 : decode cL_law 1033 = .ok (.iaload, 1) := by decide +kernel
theorem dL_law_1034 : decode cL_law 1034 = .ok (.invokevirtual 123, 3) := by decide +kernel
theorem dL_law_1037 : decode cL_law 1037 = .ok (.aload_n 2, 1) := by decide +kernel
theorem dL_law_1038 : decode cL_law 1038 = .ok (.aload_n 0, 1) := by decide +kernel
theorem dL_law_1039 : decode cL_law 1039 = .ok (.iload_n 3, 1) := by decide +kernel
theorem dL_law_1040 : decode cL_law 1040 = .ok (.iconst 1, 1) := by decide +kernel
theorem dL_law_1041 : decode cL_law 1041 = .ok (.iadd, 1) := by decide +kernel
theorem dL_law_1042 : decode cL_law 1042 = .ok (.iaload, 1) := by decide +kernel
theorem dL_law_1043 : decode cL_law 1043 = .ok (.invokevirtual 126, 3) := by decide +kernel
theorem dL_law_1046 : decode cL_law 1046 = .ok (.if_icmp .eq 153, 3) := by decide +kernel
theorem dL_law_1049 : decode cL_law 1049 = .ok (.iconst 0, 1) := by decide +kernel
theorem dL_law_1050 : decode cL_law 1050 = .ok (.ireturn, 1) := by decide +kernel
theorem dL_law_1051 : decode cL_law 1051 = .ok (.aload_n 1, 1) := by decide +kernel
theorem dL_law_1052 : decode cL_law 1052 = .ok (.aload_n 0, 1) := by decide +kernel
theorem dL_law_1053 : decode cL_law 1053 = .ok (.iload_n 3, 1) := by decide +kernel
theorem dL_law_1054 : decode cL_law 1054 = .ok (.iconst 1, 1) := by decide +kernel
theorem dL_law_1055 : decode cL_law 1055 = .ok (.iadd, 1) := by decide +kernel
theorem dL_law_1056 : decode cL_law 1056 = .ok (.iaload, 1) := by decide +kernel
theorem dL_law_1057 : decode cL_law 1057 = .ok (.invokevirtual 127, 3) := by decide +kernel
theorem dL_law_1060 : decode cL_law 1060 = .ok (.aload_n 2, 1) := by decide +kernel
theorem dL_law_1061 : decode cL_law 1061 = .ok (.aload_n 0, 1) := by decide +kernel
theorem dL_law_1062 : decode cL_law 1062 = .ok (.iload_n 3, 1) := by decide +kernel
theorem dL_law_1063 : decode cL_law 1063 = .ok (.iconst 1, 1) := by decide +kernel
theorem dL_law_1064 : decode cL_law 1064 = .ok (.iadd, 1) := by decide +kernel
theorem dL_law_1065 : decode cL_law 1065 = .ok (.iaload, 1) := by decide +kernel
theorem dL_law_1066 : decode cL_law 1066 = .ok (.invokevirtual 130, 3) := by decide +kernel
theorem dL_law_1069 : decode cL_law 1069 = .ok (.if_icmp .eq 130, 3) := by decide +kernel
theorem dL_law_1072 : decode cL_law 1072 = .ok (.iconst 0, 1) := by decide +kernel
theorem dL_law_1073 : decode cL_law 1073 = .ok (.ireturn, 1) := by decide +kernel
theorem dL_law_1074 : decode cL_law 1074 = .ok (.aload_n 1, 1) := by decide +kernel
theorem dL_law_1075 : decode cL_law 1075 = .ok (.aload_n 0, 1) := by decide +kernel
theorem dL_law_1076 : decode cL_law 1076 = .ok (.iload_n 3, 1) := by decide +kernel
theorem dL_law_1077 : decode cL_law 1077 = .ok (.iconst 1, 1) := by decide +kernel
theorem dL_law_1078 : decode cL_law 1078 = .ok (.iadd, 1) := by decide +kernel
theorem dL_law_1079 : decode cL_law 1079 = .ok (.iaload, 1) := by decide +kernel
theorem dL_law_1080 : decode cL_law 1080 = .ok (.aload_n 0, 1) := by decide +kernel
theorem dL_law_1081 : decode cL_law 1081 = .ok (.iload_n 3, 1) := by decide +kernel
theorem dL_law_1082 : decode cL_law 1082 = .ok (.iconst 2, 1) := by decide +kernel
theorem dL_law_1083 : decode cL_law 1083 = .ok (.iadd, 1) := by decide +kernel
theorem dL_law_1084 : decode cL_law 1084 = .ok (.iaload, 1) := by decide +kernel
theorem dL_law_1085 : decode cL_law 1085 = .ok (.invokevirtual 131, 3) := by decide +kernel
theorem dL_law_1088 : decode cL_law 1088 = .ok (.aload_n 2, 1) := by decide +kernel
theorem dL_law_1089 : decode cL_law 1089 = .ok (.aload_n 0, 1) := by decide +kernel
theorem dL_law_1090 : decode cL_law 1090 = .ok (.iload_n 3, 1) := by decide +kernel
theorem dL_law_1091 : decode cL_law 1091 = .ok (.iconst 1, 1) := by decide +kernel
theorem dL_law_1092 : decode cL_law 1092 = .ok (.iadd, 1) := by decide +kernel
theorem dL_law_1093 : decode cL_law 1093 = .ok (.iaload, 1) := by decide +kernel
theorem dL_law_1094 : decode cL_law 1094 = .ok (.aload_n 0, 1) := by decide +kernel
theorem dL_law_1095 : decode cL_law 1095 = .ok (.iload_n 3, 1) := by decide +kernel
theorem dL_law_1096 : decode cL_law 1096 = .ok (.iconst 2, 1) := by decide +kernel
theorem dL_law_1097 : decode cL_law 1097 = .ok (.iadd, 1) := by decide +kernel
theorem dL_law_1098 : decode cL_law 1098 = .ok (.iaload, 1) := by decide +kernel
theorem dL_law_1099 : decode cL_law 1099 = .ok (.invokevirtual 134, 3) := by decide +kernel
theorem dL_law_1102 : decode cL_law 1102 = .ok (.if_icmp .eq 97, 3) := by decide +kernel
theorem dL_law_1105 : decode cL_law 1105 = .ok (.iconst 0, 1) := by decide +kernel
theorem dL_law_1106 : decode cL_law 1106 = .ok (.ireturn, 1) := by decide +kernel
theorem dL_law_1107 : decode cL_law 1107 = .ok (.aload_n 1, 1) := by decide +kernel
theorem dL_law_1108 : decode cL_law 1108 = .ok (.aload_n 0, 1) := by decide +kernel
theorem dL_law_1109 : decode cL_law 1109 = .ok (.iload_n 3, 1) := by decide +kernel
theorem dL_law_1110 : decode cL_law 1110 = .ok (.iconst 1, 1) := by decide +kernel
theorem dL_law_1111 : decode cL_law 1111 = .ok (.iadd, 1) := by decide +kernel
theorem dL_law_1112 : decode cL_law 1112 = .ok (.iaload, 1) := by decide +kernel
theorem dL_law_1113 : decode cL_law 1113 = .ok (.aload_n 0, 1) := by decide +kernel
theorem dL_law_1114 : decode cL_law 1114 = .ok (.iload_n 3, 1) := by decide +kernel
theorem dL_law_1115 : decode cL_law 1115 = .ok (.iconst 2, 1) := by decide +kernel
theorem dL_law_1116 : decode cL_law 1116 = .ok (.iadd, 1) := by decide +kernel
theorem dL_law_1117 : decode cL_law 1117 = .ok (.iaload, 1) := by decide +kernel
theorem dL_law_1118 : decode cL_law 1118 = .ok (.invokevirtual 135, 3) := by decide +kernel
theorem dL_law_1121 : decode cL_law 1121 = .ok (.aload_n 2, 1) := by decide +kernel
theorem dL_law_1122 : decode cL_law 1122 = .ok (.aload_n 0, 1) := by decide +kernel
theorem dL_law_1123 : decode cL_law 1123 = .ok (.iload_n 3, 1) := by decide +kernel
theorem dL_law_1124 : decode cL_law 1124 = .ok (.iconst 1, 1) := by decide +kernel
theorem dL_law_1125 : decode cL_law 1125 = .ok (.iadd, 1) := by decide +kernel
theorem dL_law_1126 : decode cL_law 1126 = .ok (.iaload, 1) := by decide +kernel
theorem dL_law_1127 : decode cL_law 1127 = .ok (.aload_n 0, 1) := by decide +kernel
theorem dL_law_1128 : decode cL_law 1128 = .ok (.iload_n 3, 1) := by decide +kernel
theorem dL_law_1129 : decode cL_law 1129 = .ok (.iconst 2, 1) := by decide +kernel
theorem dL_law_1130 : decode cL_law 1130 = .ok (.iadd, 1) := by decide +kernel
theorem dL_law_1131 : decode cL_law 1131 = .ok (.iaload, 1) := by decide +kernel
theorem dL_law_1132 : decode cL_law 1132 = .ok (.invokevirtual 138, 3) := by decide +kernel
theorem dL_law_1135 : decode cL_law 1135 = .ok (.if_icmp .eq 64, 3) := by decide +kernel
theorem dL_law_1138 : decode cL_law 1138 = .ok (.iconst 0, 1) := by decide +kernel
theorem dL_law_1139 : decode cL_law 1139 = .ok (.ireturn, 1) := by decide +kernel
theorem dL_law_1140 : decode cL_law 1140 = .ok (.aload_n 1, 1) := by decide +kernel
theorem dL_law_1141 : decode cL_law 1141 = .ok (.aload_n 0, 1) := by decide +kernel
theorem dL_law_1142 : decode cL_law 1142 = .ok (.iload_n 3, 1) := by decide +kernel
theorem dL_law_1143 : decode cL_law 1143 = .ok (.iconst 1, 1) := by decide +kernel
theorem dL_law_1144 : decode cL_law 1144 = .ok (.iadd, 1) := by decide +kernel
theorem dL_law_1145 : decode cL_law 1145 = .ok (.iaload, 1) := by decide +kernel
theorem dL_law_1146 : decode cL_law 1146 = .ok (.invokevirtual 139, 3) := by decide +kernel
theorem dL_law_1149 : decode cL_law 1149 = .ok (.aload_n 2, 1) := by decide +kernel
theorem dL_law_1150 : decode cL_law 1150 = .ok (.aload_n 0, 1) := by decide +kernel
theorem dL_law_1151 : decode cL_law 1151 = .ok (.iload_n 3, 1) := by decide +kernel
theorem dL_law_1152 : decode cL_law 1152 = .ok (.iconst 1, 1) := by decide +kernel
theorem dL_law_1153 : decode cL_law 1153 = .ok (.iadd, 1) := by decide +kernel
theorem dL_law_1154 : decode cL_law 1154 = .ok (.iaload, 1) := by decide +kernel
theorem dL_law_1155 : decode cL_law 1155 = .ok (.invokevirtual 142, 3) := by decide +kernel
theorem dL_law_1158 : decode cL_law 1158 = .ok (.if_icmp .eq 41, 3) := by decide +kernel
theorem dL_law_1161 : decode cL_law 1161 = .ok (.iconst 0, 1) := by decide +kernel
theorem dL_law_1162 : decode cL_law 1162 = .ok (.ireturn, 1) := by decide +kernel
theorem dL_law_1163 : decode cL_law 1163 = .ok (.aload_n 1, 1) := by decide +kernel
theorem dL_law_1164 : decode cL_law 1164 = .ok (.aload_n 0, 1) := by decide +kernel
theorem dL_law_1165 : decode cL_law 1165 = .ok (.iload_n 3, 1) := by decide +kernel
theorem dL_law_1166 : decode cL_law 1166 = .ok (.iconst 1, 1) := by decide +kernel
theorem dL_law_1167 : decode cL_law 1167 = .ok (.iadd, 1) := by decide +kernel
theorem dL_law_1168 : decode cL_law 1168 = .ok (.iaload, 1) := by decide +kernel
theorem dL_law_1169 : decode cL_law 1169 = .ok (.invokevirtual 143, 3) := by decide +kernel
theorem dL_law_1172 : decode cL_law 1172 = .ok (.aload_n 2, 1) := by decide +kernel
theorem dL_law_1173 : decode cL_law 1173 = .ok (.aload_n 0, 1) := by decide +kernel
theorem dL_law_1174 : decode cL_law 1174 = .ok (.iload_n 3, 1) := by decide +kernel
theorem dL_law_1175 : decode cL_law 1175 = .ok (.iconst 1, 1) := by decide +kernel
theorem dL_law_1176 : decode cL_law 1176 = .ok (.iadd, 1) := by decide +kernel
theorem dL_law_1177 : decode cL_law 1177 = .ok (.iaload, 1) := by decide +kernel
theorem dL_law_1178 : decode cL_law 1178 = .ok (.invokevirtual 146, 3) := by decide +kernel
theorem dL_law_1181 : decode cL_law 1181 = .ok (.if_icmp .eq 18, 3) := by decide +kernel
theorem dL_law_1184 : decode cL_law 1184 = .ok (.iconst 0, 1) := by decide +kernel
theorem dL_law_1185 : decode cL_law 1185 = .ok (.ireturn, 1) := by decide +kernel
theorem dL_law_1186 : decode cL_law 1186 = .ok (.aload_n 1, 1) := by decide +kernel
theorem dL_law_1187 : decode cL_law 1187 = .ok (.invokevirtual 147, 3) := by decide +kernel
theorem dL_law_1190 : decode cL_law 1190 = .ok (.aload_n 2, 1) := by decide +kernel
theorem dL_law_1191 : decode cL_law 1191 = .ok (.invokevirtual 150, 3) := by decide +kernel
theorem dL_law_1194 : decode cL_law 1194 = .ok (.if_icmp .eq 5, 3) := by decide +kernel
theorem dL_law_1197 : decode cL_law 1197 = .ok (.iconst 0, 1) := by decide +kernel
theorem dL_law_1198 : decode cL_law 1198 = .ok (.ireturn, 1) := by decide +kernel
theorem dL_law_1199 : decode cL_law 1199 = .ok (.iinc 3 6, 3) := by decide +kernel
theorem dL_law_1202 : decode cL_law 1202 = .ok (.goto (-1184), 3) := by decide +kernel
theorem dL_law_1205 : decode cL_law 1205 = .ok (.iconst 1, 1) := by decide +kernel
theorem dL_law_1206 : decode cL_law 1206 = .ok (.ireturn, 1) := by decide +kernel
end
section
/-! THE WORLD OF THE CLAIM AS NUMBERS: objects by numbers (their places never move), all that changes is a number in a place; and a triple over the machine -/
abbrev classes : List vw_C := [(RX0, TX0, 6), (RX2, TX2, 8), (RX3, TX3, 3), (RX4, TX4, 4), (RX5, TX5, 10), (RX6, TX6, 22)]
abbrev jm_M : Type := Nat → Nat → Int32
/-- a method: its name, bytes, locals, return type, the frames and the words of locals that its calls want -/
abbrev jm_Y : Type := MethodName × ByteArray × Nat × Option FieldType × Nat × Nat
def jm_ob (i : Nat) : Option (Nat × Nat) :=
  if i < 32 then (match i with | 0 => some (4, 10) | 1 => some (2, 3) | 2 => some (3, 4) | 3 => some (0, 6) | 11 => some (5, 22) | _ => none)
  else if i < 144 ∧ i % 4 = 0 then some (1, 8) else none
def jm_ar (i : Nat) : Option (Nat × Nat) :=
  if i < 24 then (match i with | 4 => some (3, 8) | 5 => some (0, 8) | 6 => some (0, 8) | 7 => some (0, 110) | 8 => some (0, 16) | 9 => some (2, 24) | 10 => some (2, 2) | 12 => some (0, 8) | 13 => some (0, 8) | 14 => some (0, 320) | 15 => some (0, 40) | 16 => some (0, 110) | 17 => some (0, 45) | 18 => some (0, 45) | 19 => some (0, 45) | 20 => some (0, 1080) | 21 => some (0, 90) | 22 => some (1, 2) | 23 => some (0, 16) | _ => none)
  else if i < 32 then some (0, 40)
  else if i < 144 then (if i % 4 = 1 then some (0, 12) else if i % 4 = 0 then none else some (0, 7)) else none
def jm_rf (i k : Nat) : Option Nat :=
  if i < 32 then (match i with
    | 0 => (match k with | 0 => some 1 | 1 => some 2 | 2 => some 3 | 3 => some 32 | 4 => some 36 | 5 => some 9 | 6 => some 10 | _ => none)
    | 1 => (match k with | 0 => some 4 | 1 => some 5 | 2 => some 6 | _ => none)
    | 2 => (match k with | 0 => some 7 | _ => none)
    | 3 => (match k with | 0 => some 8 | _ => none)
    | 4 => some (24 + k)
    | 9 => some (40 + 4 * k)
    | 10 => some (136 + 4 * k)
    | 11 => (match k with | 0 => some 12 | 1 => some 13 | 2 => some 14 | 3 => some 15 | 5 => some 16 | 13 => some 17 | 14 => some 18 | 15 => some 19 | 16 => some 20 | 18 => some 21 | 19 => some 22 | 20 => some 23 | _ => none)
    | _ => none)
  else (match k with | 5 => some (i + 1) | 6 => some (i + 2) | 7 => some (i + 3) | _ => none)
/-- another content for the object i -/
def jm_sf (M : jm_M) (i : Nat) (f : Nat → Int32) : jm_M := fun j => if j = i then f else M j
theorem jm_sf_s (M : jm_M) (i : Nat) (f : Nat → Int32) : jm_sf M i f i = f := by simp [jm_sf]
theorem jm_sf_n (M : jm_M) {i j : Nat} (f : Nat → Int32) (h : j ≠ i) : jm_sf M i f j = M j := by simp [jm_sf, h]
def jm_fs (ad : Nat → Nat) (M : jm_M) (i n : Nat) : List Value := (List.range n).map (fun k => match jm_rf i k with | some j => .ref (ad j) | none => .int (M i k))
def jm_e (aC ad : Nat → Nat) (M : jm_M) (i : Nat) : va_E :=
  match jm_ob i with
  | some (c, n) => .inr (c, jm_fs ad M i n)
  | none => match jm_ar i with
    | some (t, n) => if t < 2 then .inl (aC t, n, .inl (M i)) else .inl (aC t, n, .inr (.inr (.inr (.inr (fun k => (jm_rf i k).map ad)))))
    | none => .inr (0, [])
def jm_ws (aC ad : Nat → Nat) (M : jm_M) : va_W := (List.range 144).map (fun i => (ad i, jm_e aC ad M i))
abbrev jm_tys (aC : Nat → Nat) : List (ClassId × FieldType) := [(aC 0, .int), (aC 1, .boolean), (aC 2, .object RX2), (aC 3, .array .int)]
theorem jm_at {aC ad : Nat → Nat} {M : jm_M} {i : Nat} (h : i < 144) : (jm_ws aC ad M)[i]? = some (ad i, jm_e aC ad M i) := by
  unfold jm_ws
  rw [List.getElem?_map, List.getElem?_range h]
  rfl
theorem jm_ob_lt {i : Nat} {q : Nat × Nat} (h : jm_ob i = some q) : i < 144 := by
  unfold jm_ob at h
  by_cases h1 : i < 32
  · omega
  · rw [if_neg h1] at h
    by_cases h2 : i < 144 ∧ i % 4 = 0
    · exact h2.1
    · rw [if_neg h2] at h; cases h
theorem jm_ar_lt {i : Nat} {q : Nat × Nat} (h : jm_ar i = some q) : i < 144 := by
  unfold jm_ar at h
  by_cases h1 : i < 24
  · omega
  · by_cases h2 : i < 32
    · omega
    · rw [if_neg h1, if_neg h2] at h
      by_cases h3 : i < 144
      · exact h3
      · rw [if_neg h3] at h; cases h
theorem jm_ob_ar {i : Nat} {q : Nat × Nat} (h : jm_ar i = some q) : jm_ob i = none := by
  have hl := jm_ar_lt h
  have key : ∀ i, i < 144 → (jm_ar i).isSome = true → jm_ob i = none := by decide +kernel
  exact key i hl (by rw [h]; rfl)
theorem jm_e_ob {aC ad : Nat → Nat} {M : jm_M} {i c n : Nat} (h : jm_ob i = some (c, n)) : jm_e aC ad M i = .inr (c, jm_fs ad M i n) := by
  unfold jm_e; rw [h]
theorem jm_e_ar {aC ad : Nat → Nat} {M : jm_M} {i t n : Nat} (h : jm_ar i = some (t, n)) (ht : t < 2) : jm_e aC ad M i = .inl (aC t, n, .inl (M i)) := by
  unfold jm_e; rw [jm_ob_ar h, h]; simp [ht]
theorem jm_e_aq {aC ad : Nat → Nat} {M : jm_M} {i t n : Nat} (h : jm_ar i = some (t, n)) (ht : ¬ t < 2) : jm_e aC ad M i = .inl (aC t, n, .inr (.inr (.inr (.inr (fun k => (jm_rf i k).map ad))))) := by
  unfold jm_e; rw [jm_ob_ar h, h]; simp [ht]
theorem jm_e_ne {aC ad : Nat → Nat} {M : jm_M} {i j : Nat} {f : Nat → Int32} (h : j ≠ i) : jm_e aC ad (jm_sf M i f) j = jm_e aC ad M j := by
  unfold jm_e jm_fs
  rw [jm_sf_n M f h]
theorem jm_set {aC ad : Nat → Nat} {M : jm_M} {i : Nat} {f : Nat → Int32} {x : va_E} (hi : i < 144) (hx : x = jm_e aC ad (jm_sf M i f) i) : (jm_ws aC ad M).set i (ad i, x) = jm_ws aC ad (jm_sf M i f) := by
  apply List.ext_getElem?
  intro j
  by_cases hj : j < 144
  · rw [jm_at hj]
    by_cases hji : j = i
    · subst hji
      rw [List.getElem?_set_self (by simp [jm_ws]; exact hi), hx]
    · rw [List.getElem?_set_ne (fun q => hji q.symm), jm_at hj, jm_e_ne hji]
  · rw [List.getElem?_eq_none (by simp [jm_ws]; omega), List.getElem?_eq_none (by simp [jm_ws]; omega)]
theorem jm_fs_len (ad : Nat → Nat) (M : jm_M) (i n : Nat) : (jm_fs ad M i n).length = n := by simp [jm_fs]
theorem jm_fs_at {ad : Nat → Nat} {M : jm_M} {i n k : Nat} (hk : k < n) : (jm_fs ad M i n)[k]? = some (match jm_rf i k with | some j => .ref (ad j) | none => .int (M i k)) := by
  unfold jm_fs
  rw [List.getElem?_map, List.getElem?_range hk]
  rfl
theorem jm_fs_set {ad : Nat → Nat} {M : jm_M} {i n k : Nat} {v : Int32} (hk : k < n) (hr : jm_rf i k = none) : (jm_fs ad M i n).set k (.int v) = jm_fs ad (jm_sf M i (upd (M i) k v)) i n := by
  apply List.ext_getElem?
  intro j
  by_cases hj : j < n
  · rw [jm_fs_at hj]
    by_cases hjk : j = k
    · subst hjk
      rw [List.getElem?_set_self (by rw [jm_fs_len]; exact hk), hr, jm_sf_s]
      simp [upd]
    · rw [List.getElem?_set_ne (fun q => hjk q.symm), jm_fs_at hj, jm_sf_s]
      have e : upd (M i) k v j = M i j := by simp [upd, hjk]
      rw [e]
  · rw [List.getElem?_eq_none (by simp [jm_fs_len]; omega), List.getElem?_eq_none (by rw [jm_fs_len]; omega)]
/-- the words of the tables that stay -/
def jm_tb : List Cond := lw_tbl.filter goodWord
theorem jm_tb_in {w : Cond} (h : w ∈ lw_tbl) (g : goodWord w = true) : w ∈ jm_tb := List.mem_filter.mpr ⟨h, g⟩
theorem jm_tb_of {w : Cond} (h : w ∈ jm_tb) : w ∈ lw_tbl := (List.mem_filter.mp h).1
theorem jm_tb_good {w : Cond} (h : w ∈ jm_tb) : (w.onTables && w.keeps) = true ∨ ∃ ty, w = .arrayClass ty := good_of_word (List.mem_filter.mp h).2
def jm_v (ad : Nat → Nat) : Value → Value
  | .ref i => .ref (ad i)
  | v => v
theorem jm_v_cat (ad : Nat → Nat) (v : Value) : (jm_v ad v).category = v.category := by cases v <;> rfl
/-- the locals: each either not known, or a value -/
abbrev jm_Ls : Type := List (Option Value)
def jm_L (ad : Nat → Nat) (ls : jm_Ls) (lsA : Array Slot) : Prop := lsA.size = ls.length ∧ lv_wf lsA ∧ ∀ (i : Nat) (v : Value), ls[i]? = some (some v) → lsA[i]? = some (.val (jm_v ad v))
def jm_no (ls : jm_Ls) (i : Nat) : Bool := match i with
  | 0 => true
  | k + 1 => match ls[k]? with
    | some (some v) => v.category == 1
    | _ => true
def jm_st : jm_Ls → Nat → Option Value → jm_Ls
  | [], _, _ => []
  | _ :: t, 0, v => v :: t
  | a :: t, k + 1, v => a :: jm_st t k v
theorem jm_st_set (ls : jm_Ls) (i : Nat) (v : Option Value) : jm_st ls i v = ls.set i v := by
  induction ls generalizing i with
  | nil => rfl
  | cons a t ih => cases i with
    | zero => rfl
    | succ k => show a :: jm_st t k v = _; rw [ih]; rfl
/-- what the kit's rows of stores want: the list of what is known -/
def jm_pr (ad : Nat → Nat) (ls : jm_Ls) : List (Nat × Value) := (List.range ls.length).filterMap (fun i => match ls[i]? with | some (some v) => some (i, jm_v ad v) | _ => none)
theorem jm_pr_mem {ad : Nat → Nat} {ls : jm_Ls} {i : Nat} {v : Value} (h : ls[i]? = some (some v)) : (i, jm_v ad v) ∈ jm_pr ad ls := by
  refine List.mem_filterMap.mpr ⟨i, List.mem_range.mpr (List.getElem?_eq_some_iff.mp h).1, ?_⟩
  rw [h]
theorem jm_L_has {ad : Nat → Nat} {ls : jm_Ls} {lsA : Array Slot} (h : jm_L ad ls lsA) : lv_has lsA ls.length (jm_pr ad ls) := by
  refine ⟨h.1, h.2.1, fun q hq => ?_⟩
  obtain ⟨i, -, hi⟩ := List.mem_filterMap.mp hq
  cases hx : ls[i]? with
  | none => rw [hx] at hi; cases hi
  | some o => cases o with
    | none => rw [hx] at hi; cases hi
    | some v =>
      rw [hx] at hi
      cases hi
      exact h.2.2 i v hx
theorem jm_L_st {ad : Nat → Nat} {ls : jm_Ls} {lsA' : Array Slot} {i : Nat} {v : Value} (hi : i < ls.length) (hno : jm_no ls i = true)
    (h : lv_has lsA' ls.length ((i, jm_v ad v) :: (jm_pr ad ls).filter (fun q => !(q.1 == i) && !(q.1 + 1 == i && q.2.category == 2)))) : jm_L ad (jm_st ls i (some v)) lsA' := by
  refine ⟨by rw [h.1, jm_st_set, List.length_set], h.2.1, fun j w hj => ?_⟩
  rw [jm_st_set] at hj
  by_cases hji : j = i
  · subst hji
    rw [List.getElem?_set_self hi] at hj
    cases hj
    exact h.2.2 _ List.mem_cons_self
  · rw [List.getElem?_set_ne (fun q => hji q.symm)] at hj
    refine h.2.2 (j, jm_v ad w) (List.mem_cons_of_mem _ (List.mem_filter.mpr ⟨jm_pr_mem hj, ?_⟩))
    by_cases hc : j + 1 = i
    · subst hc
      have hw : w.category = 1 := by
        simp only [jm_no, hj] at hno
        simpa using hno
      simp [hji, jm_v_cat, hw]
    · simp [hji, hc]
theorem jm_L_st2 {ad : Nat → Nat} {ls : jm_Ls} {lsA' : Array Slot} {i : Nat} {v : Value} (hi : i + 1 < ls.length) (hno : jm_no ls i = true)
    (h : lv_has lsA' ls.length ((i, jm_v ad v) :: (jm_pr ad ls).filter (fun q => !(q.1 == i) && (!(q.1 == i + 1) && !(q.1 + 1 == i && q.2.category == 2))))) : jm_L ad (jm_st (jm_st ls (i + 1) none) i (some v)) lsA' := by
  refine ⟨by rw [h.1, jm_st_set, jm_st_set, List.length_set, List.length_set], h.2.1, fun j w hj => ?_⟩
  rw [jm_st_set, jm_st_set] at hj
  by_cases hji : j = i
  · subst hji
    rw [List.getElem?_set_self (by rw [List.length_set]; omega)] at hj
    cases hj
    exact h.2.2 _ List.mem_cons_self
  · rw [List.getElem?_set_ne (fun q => hji q.symm)] at hj
    by_cases hj2 : j = i + 1
    · subst hj2
      rw [List.getElem?_set_self (by omega)] at hj
      cases hj
    · rw [List.getElem?_set_ne (fun q => hj2 q.symm)] at hj
      refine h.2.2 (j, jm_v ad w) (List.mem_cons_of_mem _ (List.mem_filter.mpr ⟨jm_pr_mem hj, ?_⟩))
      by_cases hc : j + 1 = i
      · subst hc
        have hw : w.category = 1 := by
          simp only [jm_no, hj] at hno
          simpa using hno
        simp [jm_v_cat, hw]
        try omega
      · simp [hji, hj2, hc]
/-- a method's locals at its entry -/
def jm_en (n : Nat) (vs : List Value) : jm_Ls := vs.map some ++ List.replicate (n - vs.length) none
theorem jm_lg (vs : List Value) (h : ∀ v ∈ vs, v.category = 1) : lg_sl vs = vs.map Slot.val := by
  induction vs with
  | nil => rfl
  | cons v t ih =>
    have hv := h v List.mem_cons_self
    have e : lg_sl (v :: t) = (if v.category = 2 then [.val v, .second] else [.val v]) ++ lg_sl t := rfl
    rw [e, ih (fun w hw => h w (List.mem_cons_of_mem _ hw)), hv]
    rfl
theorem jm_lva (vs : List Value) (h : ∀ v ∈ vs, v.category = 1) : ∀ (k i : Nat) (v : Value), vs[i]? = some v → (k + i, v) ∈ lv_args k vs := by
  induction vs with
  | nil => intro k i v hv; simp at hv
  | cons w t ih =>
    intro k i v hv
    have hw := h w List.mem_cons_self
    cases i with
    | zero =>
      rw [List.getElem?_cons_zero] at hv
      cases hv
      exact List.mem_cons_self
    | succ i =>
      rw [List.getElem?_cons_succ] at hv
      have := ih (fun x hx => h x (List.mem_cons_of_mem _ hx)) (k + 1) i v hv
      simp only [lv_args, hw]
      rw [show k + (i + 1) = k + 1 + i by omega]
      exact List.mem_cons_of_mem _ this
theorem jm_entry (ad : Nat → Nat) (vs : List Value) {n : Nat} (hn : vs.length ≤ n) (h : ∀ v ∈ vs, v.category = 1) : jm_L ad (jm_en n vs) ((lg_sl (vs.map (jm_v ad)) ++ List.replicate (n - (lg_sl (vs.map (jm_v ad))).length) Slot.unset).toArray) := by
  have h' : ∀ v ∈ vs.map (jm_v ad), v.category = 1 := by
    intro v hv
    obtain ⟨w, hw, rfl⟩ := List.mem_map.mp hv
    rw [jm_v_cat]; exact h w hw
  have hl : (lg_sl (vs.map (jm_v ad))).length = vs.length := by rw [jm_lg _ h']; simp
  have hE := lv_entry (vs.map (jm_v ad)) (n := n) (by rw [hl]; exact hn)
  refine ⟨by rw [hE.1]; simp [jm_en]; omega, hE.2.1, fun i v hi => ?_⟩
  refine hE.2.2 (i, jm_v ad v) ?_
  have hv : vs[i]? = some v := by
    unfold jm_en at hi
    by_cases hlt : i < vs.length
    · rw [List.getElem?_append_left (by simpa using hlt), List.getElem?_map] at hi
      cases hx : vs[i]? with
      | none => rw [hx] at hi; cases hi
      | some w => rw [hx] at hi; cases hi; rfl
    · rw [List.getElem?_append_right (by simpa using hlt)] at hi
      have := List.eq_of_mem_replicate (List.mem_of_getElem? hi)
      cases this
  have := jm_lva (vs.map (jm_v ad)) h' 0 i (jm_v ad v) (by rw [List.getElem?_map, hv]; rfl)
  simpa using this
/-- the table of kinds above -/
def jm_ab : Nat → Value := fun k => .int (([0, 0, 1, 1, 0, 4] : List Int32).getD k 0)
abbrev jm_S : Type := Option (Nat × (Nat → Int32))
def jm_ctx (sc : jm_S) (Y : jm_Y) (p : Program) (R : Room) (s : State) (m : MethodId) (args : Array Value) (c : Code) (cells slots : Nat) (A : Nat → Prop) (D : va_G) (aC ad : Nat → Nat) : Prop :=
  p.tables.exec = Jvm.exec ∧ c.code = Y.2.1 ∧ c.maxLocals = Y.2.2.1 ∧ s.vm.findClass Y.1.cls = some m.cls ∧ (∀ w ∈ jm_tb, w.before args s = true) ∧ va_K D classes (jm_tys aC) s ∧ (∀ i j, i < 144 → j < 144 → ad i = ad j → i = j) ∧ (∀ i, i < 144 → A (ad i)) ∧
  va_Z "WeirWords$Kinds" "ABOVE" "[I" (.ref (ad 1001)) A s s.heap ∧ va_T .int (ad 1001) 6 jm_ab A s s.heap ∧ (Y.2.2.2.2.1 ≤ R.frames ∧ Y.2.2.2.2.2 ≤ R.locals) ∧ (cells ≤ R.cells ∧ slots ≤ R.slots) ∧
  (match sc with | none => True | some q => va_X (ad 1000) q.1 q.2 s s.heap ∧ ad 1000 < s.heap.size ∧ ¬ A (ad 1000))
theorem jm_D {A : Nat → Prop} {aC ad : Nat → Nat} {M : jm_M} (h1 : ∀ i j, i < 144 → j < 144 → ad i = ad j → i = j) (h2 : ∀ i, i < 144 → A (ad i)) : va_D A (jm_ws aC ad M) := by
  have key : ∀ (k : Nat) (q : Nat × va_E), (jm_ws aC ad M)[k]? = some q → k < 144 ∧ q.1 = ad k := by
    intro k q hk
    have hl : k < 144 := by
      have := (List.getElem?_eq_some_iff.mp hk).1
      simpa [jm_ws] using this
    rw [jm_at hl] at hk
    cases hk
    exact ⟨hl, rfl⟩
  refine ⟨fun i j x y hi hj hxy => ?_, fun k q hk => ?_⟩
  · obtain ⟨a1, a2⟩ := key i x hi
    obtain ⟨b1, b2⟩ := key j y hj
    exact h1 i j a1 b1 (by rw [← a2, ← b2]; exact hxy)
  · obtain ⟨a1, a2⟩ := key k q hk
    rw [a2]
    exact h2 k a1
/-- THE TRIPLE: from pc of the method Y, with these locals and this stack, in any world that holds M, the machine comes to the method's end with an answer and a world of which Q holds -/
def jm_J (sc : jm_S) (Y : jm_Y) (pc : Nat) (ls : jm_Ls) (st : List Value) (M : jm_M) (Q : Option Value → jm_M → Prop) : Prop :=
  ∀ (p : Program) (l : Launch) (e : Env) (R : Room) (s : State) (m : MethodId) (args : Array Value) (below : List Frame) (meth : Method) (c : Code) (cells slots : Nat) (Z : State → Prop) (A : Nat → Prop) (D : va_G) (aC ad : Nat → Nat),
    jm_ctx sc Y p R s m args c cells slots A D aC ad →
    (∀ (v : Int32) (M1 : jm_M) (H1 : Heap) (locs1 : List Loc) (pc1 : Nat) (ls1 : Array Slot) (ty : FieldType), Q (some (.int v)) M1 → va_P D classes (jm_ws aC ad M1) H1 → va_S A s.heap H1 locs1 → Y.2.2.2.1 = some ty → narrow ty (.int v) = .int v → decode Y.2.1 pc1 = .ok (.ireturn, 1) → W p l e R s m args below meth c H1 locs1 cells slots Z (F0 m pc1 ls1 [.int v])) →
    (∀ (M1 : jm_M) (H1 : Heap) (locs1 : List Loc) (pc1 : Nat) (ls1 : Array Slot), Q none M1 → va_P D classes (jm_ws aC ad M1) H1 → va_S A s.heap H1 locs1 → Y.2.2.2.1 = none → decode Y.2.1 pc1 = .ok (.return_, 1) → W p l e R s m args below meth c H1 locs1 cells slots Z (F0 m pc1 ls1 [])) →
    ∀ (H : Heap) (locs : List Loc) (lsA : Array Slot), va_P D classes (jm_ws aC ad M) H → va_S A s.heap H locs → jm_L ad ls lsA → lsA.size = Y.2.2.1 → W p l e R s m args below meth c H locs cells slots Z (F0 m pc lsA (st.map (jm_v ad)))
end
section
/-! one rule an instruction -/
theorem jm_iconst {sc : jm_S} {Y : jm_Y} {pc : Nat} {ls : jm_Ls} {st : List Value} {M : jm_M} {Q : Option Value → jm_M → Prop} {n : Int} {v : Int32} (d : decode Y.2.1 pc = .ok (.iconst n, 1)) (hv : Int32.ofInt n = v) (k : jm_J sc Y (pc + 1) ls (.int v :: st) M Q) : jm_J sc Y pc ls (st) M Q := by
  intro p l e R s m args below meth c cells slots Z A D aC ad C hI hV H locs lsA hP hS hL hz
  exact lv_iconst C.1 C.2.1 d hv (k p l e R s m args below meth c cells slots Z A D aC ad C hI hV H locs lsA hP hS hL hz)
theorem jm_bipush {sc : jm_S} {Y : jm_Y} {pc : Nat} {ls : jm_Ls} {st : List Value} {M : jm_M} {Q : Option Value → jm_M → Prop} {n : Int} {v : Int32} (d : decode Y.2.1 pc = .ok (.bipush n, 2)) (hv : (Int8.ofInt n).toInt32 = v) (k : jm_J sc Y (pc + 2) ls (.int v :: st) M Q) : jm_J sc Y pc ls (st) M Q := by
  intro p l e R s m args below meth c cells slots Z A D aC ad C hI hV H locs lsA hP hS hL hz
  exact lv_bipush C.1 C.2.1 d hv (k p l e R s m args below meth c cells slots Z A D aC ad C hI hV H locs lsA hP hS hL hz)
theorem jm_sipush {sc : jm_S} {Y : jm_Y} {pc : Nat} {ls : jm_Ls} {st : List Value} {M : jm_M} {Q : Option Value → jm_M → Prop} {n : Int} {v : Int32} (d : decode Y.2.1 pc = .ok (.sipush n, 3)) (hv : (Int16.ofInt n).toInt32 = v) (k : jm_J sc Y (pc + 3) ls (.int v :: st) M Q) : jm_J sc Y pc ls (st) M Q := by
  intro p l e R s m args below meth c cells slots Z A D aC ad C hI hV H locs lsA hP hS hL hz
  exact lv_sipush C.1 C.2.1 d hv (k p l e R s m args below meth c cells slots Z A D aC ad C hI hV H locs lsA hP hS hL hz)
theorem jm_ldc {sc : jm_S} {Y : jm_Y} {pc : Nat} {ls : jm_Ls} {st : List Value} {M : jm_M} {Q : Option Value → jm_M → Prop} {idx : Nat} {v : Int32} (d : decode Y.2.1 pc = .ok (.ldc idx, 2)) (hw : Cond.constant Y.1.cls idx v ∈ jm_tb) (k : jm_J sc Y (pc + 2) ls (.int v :: st) M Q) : jm_J sc Y pc ls (st) M Q := by
  intro p l e R s m args below meth c cells slots Z A D aC ad C hI hV H locs lsA hP hS hL hz
  exact lv_ldc C.1 C.2.1 C.2.2.2.1 (C.2.2.2.2.1 _ hw) d (k p l e R s m args below meth c cells slots Z A D aC ad C hI hV H locs lsA hP hS hL hz)
theorem jm_ldcw {sc : jm_S} {Y : jm_Y} {pc : Nat} {ls : jm_Ls} {st : List Value} {M : jm_M} {Q : Option Value → jm_M → Prop} {idx : Nat} {v : Int32} (d : decode Y.2.1 pc = .ok (.ldc_w idx, 3)) (hw : Cond.constant Y.1.cls idx v ∈ jm_tb) (k : jm_J sc Y (pc + 3) ls (.int v :: st) M Q) : jm_J sc Y pc ls (st) M Q := by
  intro p l e R s m args below meth c cells slots Z A D aC ad C hI hV H locs lsA hP hS hL hz
  exact lv_ldcw C.1 C.2.1 C.2.2.2.1 (C.2.2.2.2.1 _ hw) d (k p l e R s m args below meth c cells slots Z A D aC ad C hI hV H locs lsA hP hS hL hz)
theorem jm_ldc2 {sc : jm_S} {Y : jm_Y} {pc : Nat} {ls : jm_Ls} {st : List Value} {M : jm_M} {Q : Option Value → jm_M → Prop} {idx : Nat} {v : Int64} (d : decode Y.2.1 pc = .ok (.ldc2_w idx, 3)) (hw : Cond.constantLong Y.1.cls idx v ∈ jm_tb) (k : jm_J sc Y (pc + 3) ls (.long v :: st) M Q) : jm_J sc Y pc ls (st) M Q := by
  intro p l e R s m args below meth c cells slots Z A D aC ad C hI hV H locs lsA hP hS hL hz
  exact lv_ldc2 C.1 C.2.1 C.2.2.2.1 (C.2.2.2.2.1 _ hw) d (k p l e R s m args below meth c cells slots Z A D aC ad C hI hV H locs lsA hP hS hL hz)
theorem jm_iload_n {sc : jm_S} {Y : jm_Y} {pc : Nat} {ls : jm_Ls} {st : List Value} {M : jm_M} {Q : Option Value → jm_M → Prop} {k0 : Fin 4} {x : Int32} (d : decode Y.2.1 pc = .ok (.iload_n k0, 1)) (hl : ls[(k0 : Nat)]? = some (some (.int x))) (k : jm_J sc Y (pc + 1) ls (.int x :: st) M Q) : jm_J sc Y pc ls (st) M Q := by
  intro p l e R s m args below meth c cells slots Z A D aC ad C hI hV H locs lsA hP hS hL hz
  exact lv_iload_n C.1 C.2.1 d rfl (hL.2.2 _ _ hl) (k p l e R s m args below meth c cells slots Z A D aC ad C hI hV H locs lsA hP hS hL hz)
theorem jm_iload {sc : jm_S} {Y : jm_Y} {pc : Nat} {ls : jm_Ls} {st : List Value} {M : jm_M} {Q : Option Value → jm_M → Prop} {i : Nat} {x : Int32} (d : decode Y.2.1 pc = .ok (.iload i, 2)) (hl : ls[i]? = some (some (.int x))) (k : jm_J sc Y (pc + 2) ls (.int x :: st) M Q) : jm_J sc Y pc ls (st) M Q := by
  intro p l e R s m args below meth c cells slots Z A D aC ad C hI hV H locs lsA hP hS hL hz
  exact lv_iload C.1 C.2.1 d (hL.2.2 _ _ hl) (k p l e R s m args below meth c cells slots Z A D aC ad C hI hV H locs lsA hP hS hL hz)
theorem jm_lload_n {sc : jm_S} {Y : jm_Y} {pc : Nat} {ls : jm_Ls} {st : List Value} {M : jm_M} {Q : Option Value → jm_M → Prop} {k0 : Fin 4} {x : Int64} (d : decode Y.2.1 pc = .ok (.lload_n k0, 1)) (hl : ls[(k0 : Nat)]? = some (some (.long x))) (k : jm_J sc Y (pc + 1) ls (.long x :: st) M Q) : jm_J sc Y pc ls (st) M Q := by
  intro p l e R s m args below meth c cells slots Z A D aC ad C hI hV H locs lsA hP hS hL hz
  exact lv_lload_n C.1 C.2.1 d rfl (hL.2.2 _ _ hl) (k p l e R s m args below meth c cells slots Z A D aC ad C hI hV H locs lsA hP hS hL hz)
theorem jm_lload {sc : jm_S} {Y : jm_Y} {pc : Nat} {ls : jm_Ls} {st : List Value} {M : jm_M} {Q : Option Value → jm_M → Prop} {i : Nat} {x : Int64} (d : decode Y.2.1 pc = .ok (.lload i, 2)) (hl : ls[i]? = some (some (.long x))) (k : jm_J sc Y (pc + 2) ls (.long x :: st) M Q) : jm_J sc Y pc ls (st) M Q := by
  intro p l e R s m args below meth c cells slots Z A D aC ad C hI hV H locs lsA hP hS hL hz
  exact lv_lload C.1 C.2.1 d (hL.2.2 _ _ hl) (k p l e R s m args below meth c cells slots Z A D aC ad C hI hV H locs lsA hP hS hL hz)
theorem jm_aload_n {sc : jm_S} {Y : jm_Y} {pc : Nat} {ls : jm_Ls} {st : List Value} {M : jm_M} {Q : Option Value → jm_M → Prop} {k0 : Fin 4} {x : Nat} (d : decode Y.2.1 pc = .ok (.aload_n k0, 1)) (hl : ls[(k0 : Nat)]? = some (some (.ref x))) (k : jm_J sc Y (pc + 1) ls (.ref x :: st) M Q) : jm_J sc Y pc ls (st) M Q := by
  intro p l e R s m args below meth c cells slots Z A D aC ad C hI hV H locs lsA hP hS hL hz
  exact lv_aload_n C.1 C.2.1 d rfl (hL.2.2 _ _ hl) (k p l e R s m args below meth c cells slots Z A D aC ad C hI hV H locs lsA hP hS hL hz)
theorem jm_aload {sc : jm_S} {Y : jm_Y} {pc : Nat} {ls : jm_Ls} {st : List Value} {M : jm_M} {Q : Option Value → jm_M → Prop} {i : Nat} {x : Nat} (d : decode Y.2.1 pc = .ok (.aload i, 2)) (hl : ls[i]? = some (some (.ref x))) (k : jm_J sc Y (pc + 2) ls (.ref x :: st) M Q) : jm_J sc Y pc ls (st) M Q := by
  intro p l e R s m args below meth c cells slots Z A D aC ad C hI hV H locs lsA hP hS hL hz
  exact lv_aload C.1 C.2.1 d (hL.2.2 _ _ hl) (k p l e R s m args below meth c cells slots Z A D aC ad C hI hV H locs lsA hP hS hL hz)
theorem jm_istore_n {sc : jm_S} {Y : jm_Y} {pc : Nat} {ls : jm_Ls} {st : List Value} {M : jm_M} {Q : Option Value → jm_M → Prop} {k0 : Fin 4} {x : Int32} (d : decode Y.2.1 pc = .ok (.istore_n k0, 1)) (hi : (k0 : Nat) < ls.length) (hno : jm_no ls (k0 : Nat) = true) (k : jm_J sc Y (pc + 1) (jm_st ls (k0 : Nat) (some (.int x))) st M Q) : jm_J sc Y pc ls (.int x :: st) M Q := by
  intro p l e R s m args below meth c cells slots Z A D aC ad C hI hV H locs lsA hP hS hL hz
  exact lv_istore_n C.1 C.2.1 d rfl (jm_L_has hL) hi rfl (fun ls' h' => k p l e R s m args below meth c cells slots Z A D aC ad C hI hV H locs ls' hP hS (jm_L_st (v := .int x) hi hno h') (by rw [h'.1, ← hL.1]; exact hz))
theorem jm_istore {sc : jm_S} {Y : jm_Y} {pc : Nat} {ls : jm_Ls} {st : List Value} {M : jm_M} {Q : Option Value → jm_M → Prop} {i : Nat} {x : Int32} (d : decode Y.2.1 pc = .ok (.istore i, 2)) (hi : i < ls.length) (hno : jm_no ls i = true) (k : jm_J sc Y (pc + 2) (jm_st ls i (some (.int x))) st M Q) : jm_J sc Y pc ls (.int x :: st) M Q := by
  intro p l e R s m args below meth c cells slots Z A D aC ad C hI hV H locs lsA hP hS hL hz
  exact lv_istore C.1 C.2.1 d (jm_L_has hL) hi rfl (fun ls' h' => k p l e R s m args below meth c cells slots Z A D aC ad C hI hV H locs ls' hP hS (jm_L_st (v := .int x) hi hno h') (by rw [h'.1, ← hL.1]; exact hz))
theorem jm_lstore_n {sc : jm_S} {Y : jm_Y} {pc : Nat} {ls : jm_Ls} {st : List Value} {M : jm_M} {Q : Option Value → jm_M → Prop} {k0 : Fin 4} {x : Int64} (d : decode Y.2.1 pc = .ok (.lstore_n k0, 1)) (hi : (k0 : Nat) + 1 < ls.length) (hno : jm_no ls (k0 : Nat) = true) (k : jm_J sc Y (pc + 1) (jm_st (jm_st ls ((k0 : Nat) + 1) none) (k0 : Nat) (some (.long x))) st M Q) : jm_J sc Y pc ls (.long x :: st) M Q := by
  intro p l e R s m args below meth c cells slots Z A D aC ad C hI hV H locs lsA hP hS hL hz
  exact lv_lstore_n C.1 C.2.1 d rfl (jm_L_has hL) hi rfl (fun ls' h' => k p l e R s m args below meth c cells slots Z A D aC ad C hI hV H locs ls' hP hS (jm_L_st2 (v := .long x) hi hno h') (by rw [h'.1, ← hL.1]; exact hz))
theorem jm_lstore {sc : jm_S} {Y : jm_Y} {pc : Nat} {ls : jm_Ls} {st : List Value} {M : jm_M} {Q : Option Value → jm_M → Prop} {i : Nat} {x : Int64} (d : decode Y.2.1 pc = .ok (.lstore i, 2)) (hi : i + 1 < ls.length) (hno : jm_no ls i = true) (k : jm_J sc Y (pc + 2) (jm_st (jm_st ls (i + 1) none) i (some (.long x))) st M Q) : jm_J sc Y pc ls (.long x :: st) M Q := by
  intro p l e R s m args below meth c cells slots Z A D aC ad C hI hV H locs lsA hP hS hL hz
  exact lv_lstore C.1 C.2.1 d (jm_L_has hL) hi rfl (fun ls' h' => k p l e R s m args below meth c cells slots Z A D aC ad C hI hV H locs ls' hP hS (jm_L_st2 (v := .long x) hi hno h') (by rw [h'.1, ← hL.1]; exact hz))
theorem jm_astore_n {sc : jm_S} {Y : jm_Y} {pc : Nat} {ls : jm_Ls} {st : List Value} {M : jm_M} {Q : Option Value → jm_M → Prop} {k0 : Fin 4} {x : Nat} (d : decode Y.2.1 pc = .ok (.astore_n k0, 1)) (hi : (k0 : Nat) < ls.length) (hno : jm_no ls (k0 : Nat) = true) (k : jm_J sc Y (pc + 1) (jm_st ls (k0 : Nat) (some (.ref x))) st M Q) : jm_J sc Y pc ls (.ref x :: st) M Q := by
  intro p l e R s m args below meth c cells slots Z A D aC ad C hI hV H locs lsA hP hS hL hz
  exact lv_astore_n C.1 C.2.1 d rfl (jm_L_has hL) hi rfl (fun ls' h' => k p l e R s m args below meth c cells slots Z A D aC ad C hI hV H locs ls' hP hS (jm_L_st (v := .ref x) hi hno h') (by rw [h'.1, ← hL.1]; exact hz))
theorem jm_astore {sc : jm_S} {Y : jm_Y} {pc : Nat} {ls : jm_Ls} {st : List Value} {M : jm_M} {Q : Option Value → jm_M → Prop} {i : Nat} {x : Nat} (d : decode Y.2.1 pc = .ok (.astore i, 2)) (hi : i < ls.length) (hno : jm_no ls i = true) (k : jm_J sc Y (pc + 2) (jm_st ls i (some (.ref x))) st M Q) : jm_J sc Y pc ls (.ref x :: st) M Q := by
  intro p l e R s m args below meth c cells slots Z A D aC ad C hI hV H locs lsA hP hS hL hz
  exact lv_astore C.1 C.2.1 d (jm_L_has hL) hi rfl (fun ls' h' => k p l e R s m args below meth c cells slots Z A D aC ad C hI hV H locs ls' hP hS (jm_L_st (v := .ref x) hi hno h') (by rw [h'.1, ← hL.1]; exact hz))
theorem jm_iinc {sc : jm_S} {Y : jm_Y} {pc : Nat} {ls : jm_Ls} {st : List Value} {M : jm_M} {Q : Option Value → jm_M → Prop} {i : Nat} {n : Int} {x : Int32} (d : decode Y.2.1 pc = .ok (.iinc i n, 3)) (hl : ls[i]? = some (some (.int x))) (hno : jm_no ls i = true) (k : jm_J sc Y (pc + 3) (jm_st ls i (some (.int (x + Int32.ofInt n)))) st M Q) : jm_J sc Y pc ls st M Q := by
  intro p l e R s m args below meth c cells slots Z A D aC ad C hI hV H locs lsA hP hS hL hz
  have hi : i < ls.length := (List.getElem?_eq_some_iff.mp hl).1
  obtain ⟨k0, hk0⟩ := List.getElem?_of_mem (jm_pr_mem (ad := ad) hl)
  exact lv_iinc C.1 C.2.1 d (jm_L_has hL) (k := k0) hk0 rfl hi rfl (fun ls' h' => k p l e R s m args below meth c cells slots Z A D aC ad C hI hV H locs ls' hP hS (jm_L_st (v := .int (x + Int32.ofInt n)) hi hno h') (by rw [h'.1, ← hL.1]; exact hz))
theorem jm_iadd {sc : jm_S} {Y : jm_Y} {pc : Nat} {ls : jm_Ls} {st : List Value} {M : jm_M} {Q : Option Value → jm_M → Prop} {x y : Int32} (d : decode Y.2.1 pc = .ok (.iadd, 1))  (k : jm_J sc Y (pc + 1) ls (.int (x + y) :: st) M Q) : jm_J sc Y pc ls (.int y :: .int x :: st) M Q := by
  intro p l e R s m args below meth c cells slots Z A D aC ad C hI hV H locs lsA hP hS hL hz
  exact lv_iadd C.1 C.2.1 d (k p l e R s m args below meth c cells slots Z A D aC ad C hI hV H locs lsA hP hS hL hz)
theorem jm_isub {sc : jm_S} {Y : jm_Y} {pc : Nat} {ls : jm_Ls} {st : List Value} {M : jm_M} {Q : Option Value → jm_M → Prop} {x y : Int32} (d : decode Y.2.1 pc = .ok (.isub, 1))  (k : jm_J sc Y (pc + 1) ls (.int (x - y) :: st) M Q) : jm_J sc Y pc ls (.int y :: .int x :: st) M Q := by
  intro p l e R s m args below meth c cells slots Z A D aC ad C hI hV H locs lsA hP hS hL hz
  exact lv_isub C.1 C.2.1 d (k p l e R s m args below meth c cells slots Z A D aC ad C hI hV H locs lsA hP hS hL hz)
theorem jm_imul {sc : jm_S} {Y : jm_Y} {pc : Nat} {ls : jm_Ls} {st : List Value} {M : jm_M} {Q : Option Value → jm_M → Prop} {x y : Int32} (d : decode Y.2.1 pc = .ok (.imul, 1))  (k : jm_J sc Y (pc + 1) ls (.int (x * y) :: st) M Q) : jm_J sc Y pc ls (.int y :: .int x :: st) M Q := by
  intro p l e R s m args below meth c cells slots Z A D aC ad C hI hV H locs lsA hP hS hL hz
  exact lv_imul C.1 C.2.1 d (k p l e R s m args below meth c cells slots Z A D aC ad C hI hV H locs lsA hP hS hL hz)
theorem jm_iand {sc : jm_S} {Y : jm_Y} {pc : Nat} {ls : jm_Ls} {st : List Value} {M : jm_M} {Q : Option Value → jm_M → Prop} {x y : Int32} (d : decode Y.2.1 pc = .ok (.iand, 1))  (k : jm_J sc Y (pc + 1) ls (.int (x &&& y) :: st) M Q) : jm_J sc Y pc ls (.int y :: .int x :: st) M Q := by
  intro p l e R s m args below meth c cells slots Z A D aC ad C hI hV H locs lsA hP hS hL hz
  exact lv_iand C.1 C.2.1 d (k p l e R s m args below meth c cells slots Z A D aC ad C hI hV H locs lsA hP hS hL hz)
theorem jm_ior {sc : jm_S} {Y : jm_Y} {pc : Nat} {ls : jm_Ls} {st : List Value} {M : jm_M} {Q : Option Value → jm_M → Prop} {x y : Int32} (d : decode Y.2.1 pc = .ok (.ior, 1))  (k : jm_J sc Y (pc + 1) ls (.int (x ||| y) :: st) M Q) : jm_J sc Y pc ls (.int y :: .int x :: st) M Q := by
  intro p l e R s m args below meth c cells slots Z A D aC ad C hI hV H locs lsA hP hS hL hz
  exact lv_ior C.1 C.2.1 d (k p l e R s m args below meth c cells slots Z A D aC ad C hI hV H locs lsA hP hS hL hz)
theorem jm_ixor {sc : jm_S} {Y : jm_Y} {pc : Nat} {ls : jm_Ls} {st : List Value} {M : jm_M} {Q : Option Value → jm_M → Prop} {x y : Int32} (d : decode Y.2.1 pc = .ok (.ixor, 1))  (k : jm_J sc Y (pc + 1) ls (.int (x ^^^ y) :: st) M Q) : jm_J sc Y pc ls (.int y :: .int x :: st) M Q := by
  intro p l e R s m args below meth c cells slots Z A D aC ad C hI hV H locs lsA hP hS hL hz
  exact lv_ixor C.1 C.2.1 d (k p l e R s m args below meth c cells slots Z A D aC ad C hI hV H locs lsA hP hS hL hz)
theorem jm_ishl {sc : jm_S} {Y : jm_Y} {pc : Nat} {ls : jm_Ls} {st : List Value} {M : jm_M} {Q : Option Value → jm_M → Prop} {x y : Int32} (d : decode Y.2.1 pc = .ok (.ishl, 1))  (k : jm_J sc Y (pc + 1) ls (.int (x <<< (y &&& 31)) :: st) M Q) : jm_J sc Y pc ls (.int y :: .int x :: st) M Q := by
  intro p l e R s m args below meth c cells slots Z A D aC ad C hI hV H locs lsA hP hS hL hz
  exact lv_ishl C.1 C.2.1 d (k p l e R s m args below meth c cells slots Z A D aC ad C hI hV H locs lsA hP hS hL hz)
theorem jm_ishr {sc : jm_S} {Y : jm_Y} {pc : Nat} {ls : jm_Ls} {st : List Value} {M : jm_M} {Q : Option Value → jm_M → Prop} {x y : Int32} (d : decode Y.2.1 pc = .ok (.ishr, 1))  (k : jm_J sc Y (pc + 1) ls (.int (x >>> (y &&& 31)) :: st) M Q) : jm_J sc Y pc ls (.int y :: .int x :: st) M Q := by
  intro p l e R s m args below meth c cells slots Z A D aC ad C hI hV H locs lsA hP hS hL hz
  exact lv_ishr C.1 C.2.1 d (k p l e R s m args below meth c cells slots Z A D aC ad C hI hV H locs lsA hP hS hL hz)
theorem jm_idiv {sc : jm_S} {Y : jm_Y} {pc : Nat} {ls : jm_Ls} {st : List Value} {M : jm_M} {Q : Option Value → jm_M → Prop} {x y : Int32} (d : decode Y.2.1 pc = .ok (.idiv, 1)) (hne : ¬ y = 0) (k : jm_J sc Y (pc + 1) ls (.int (x / y) :: st) M Q) : jm_J sc Y pc ls (.int y :: .int x :: st) M Q := by
  intro p l e R s m args below meth c cells slots Z A D aC ad C hI hV H locs lsA hP hS hL hz
  exact lv_idiv C.1 C.2.1 d hne (k p l e R s m args below meth c cells slots Z A D aC ad C hI hV H locs lsA hP hS hL hz)
theorem jm_irem {sc : jm_S} {Y : jm_Y} {pc : Nat} {ls : jm_Ls} {st : List Value} {M : jm_M} {Q : Option Value → jm_M → Prop} {x y : Int32} (d : decode Y.2.1 pc = .ok (.irem, 1)) (hne : ¬ y = 0) (k : jm_J sc Y (pc + 1) ls (.int (x - x / y * y) :: st) M Q) : jm_J sc Y pc ls (.int y :: .int x :: st) M Q := by
  intro p l e R s m args below meth c cells slots Z A D aC ad C hI hV H locs lsA hP hS hL hz
  exact lv_irem C.1 C.2.1 d hne (k p l e R s m args below meth c cells slots Z A D aC ad C hI hV H locs lsA hP hS hL hz)
theorem jm_iushr {sc : jm_S} {Y : jm_Y} {pc : Nat} {ls : jm_Ls} {st : List Value} {M : jm_M} {Q : Option Value → jm_M → Prop} {x y : Int32} (d : decode Y.2.1 pc = .ok (.iushr, 1))  (k : jm_J sc Y (pc + 1) ls (.int ((x.toUInt32 >>> (y.toUInt32 &&& Int32.toUInt32 31)).toInt32) :: st) M Q) : jm_J sc Y pc ls (.int y :: .int x :: st) M Q := by
  intro p l e R s m args below meth c cells slots Z A D aC ad C hI hV H locs lsA hP hS hL hz
  exact lv_iushr C.1 C.2.1 d rfl (k p l e R s m args below meth c cells slots Z A D aC ad C hI hV H locs lsA hP hS hL hz)
theorem jm_ineg {sc : jm_S} {Y : jm_Y} {pc : Nat} {ls : jm_Ls} {st : List Value} {M : jm_M} {Q : Option Value → jm_M → Prop} {x : Int32} (d : decode Y.2.1 pc = .ok (.ineg, 1))  (k : jm_J sc Y (pc + 1) ls (.int (-x) :: st) M Q) : jm_J sc Y pc ls (.int x :: st) M Q := by
  intro p l e R s m args below meth c cells slots Z A D aC ad C hI hV H locs lsA hP hS hL hz
  exact lv_ineg C.1 C.2.1 d (k p l e R s m args below meth c cells slots Z A D aC ad C hI hV H locs lsA hP hS hL hz)
theorem jm_lmul {sc : jm_S} {Y : jm_Y} {pc : Nat} {ls : jm_Ls} {st : List Value} {M : jm_M} {Q : Option Value → jm_M → Prop} {x y : Int64} (d : decode Y.2.1 pc = .ok (.lmul, 1))  (k : jm_J sc Y (pc + 1) ls (.long (x * y) :: st) M Q) : jm_J sc Y pc ls (.long y :: .long x :: st) M Q := by
  intro p l e R s m args below meth c cells slots Z A D aC ad C hI hV H locs lsA hP hS hL hz
  exact lv_lmul C.1 C.2.1 d (k p l e R s m args below meth c cells slots Z A D aC ad C hI hV H locs lsA hP hS hL hz)
theorem jm_lrem {sc : jm_S} {Y : jm_Y} {pc : Nat} {ls : jm_Ls} {st : List Value} {M : jm_M} {Q : Option Value → jm_M → Prop} {x y : Int64} (d : decode Y.2.1 pc = .ok (.lrem, 1)) (hne : ¬ y = 0) (k : jm_J sc Y (pc + 1) ls (.long (x - x / y * y) :: st) M Q) : jm_J sc Y pc ls (.long y :: .long x :: st) M Q := by
  intro p l e R s m args below meth c cells slots Z A D aC ad C hI hV H locs lsA hP hS hL hz
  exact lv_lrem C.1 C.2.1 d hne (k p l e R s m args below meth c cells slots Z A D aC ad C hI hV H locs lsA hP hS hL hz)
theorem jm_i2l {sc : jm_S} {Y : jm_Y} {pc : Nat} {ls : jm_Ls} {st : List Value} {M : jm_M} {Q : Option Value → jm_M → Prop} {x : Int32} (d : decode Y.2.1 pc = .ok (.i2l, 1))  (k : jm_J sc Y (pc + 1) ls (.long (x.toInt64) :: st) M Q) : jm_J sc Y pc ls (.int x :: st) M Q := by
  intro p l e R s m args below meth c cells slots Z A D aC ad C hI hV H locs lsA hP hS hL hz
  exact lv_i2l C.1 C.2.1 d rfl (k p l e R s m args below meth c cells slots Z A D aC ad C hI hV H locs lsA hP hS hL hz)
theorem jm_l2i {sc : jm_S} {Y : jm_Y} {pc : Nat} {ls : jm_Ls} {st : List Value} {M : jm_M} {Q : Option Value → jm_M → Prop} {x : Int64} (d : decode Y.2.1 pc = .ok (.l2i, 1))  (k : jm_J sc Y (pc + 1) ls (.int (x.toInt32) :: st) M Q) : jm_J sc Y pc ls (.long x :: st) M Q := by
  intro p l e R s m args below meth c cells slots Z A D aC ad C hI hV H locs lsA hP hS hL hz
  exact lv_l2i C.1 C.2.1 d rfl (k p l e R s m args below meth c cells slots Z A D aC ad C hI hV H locs lsA hP hS hL hz)
theorem jm_i2b {sc : jm_S} {Y : jm_Y} {pc : Nat} {ls : jm_Ls} {st : List Value} {M : jm_M} {Q : Option Value → jm_M → Prop} {x : Int32} (d : decode Y.2.1 pc = .ok (.i2b, 1))  (k : jm_J sc Y (pc + 1) ls (.int (x.toInt8.toInt32) :: st) M Q) : jm_J sc Y pc ls (.int x :: st) M Q := by
  intro p l e R s m args below meth c cells slots Z A D aC ad C hI hV H locs lsA hP hS hL hz
  exact lv_i2b C.1 C.2.1 d rfl (k p l e R s m args below meth c cells slots Z A D aC ad C hI hV H locs lsA hP hS hL hz)
theorem jm_i2s {sc : jm_S} {Y : jm_Y} {pc : Nat} {ls : jm_Ls} {st : List Value} {M : jm_M} {Q : Option Value → jm_M → Prop} {x : Int32} (d : decode Y.2.1 pc = .ok (.i2s, 1))  (k : jm_J sc Y (pc + 1) ls (.int (x.toInt16.toInt32) :: st) M Q) : jm_J sc Y pc ls (.int x :: st) M Q := by
  intro p l e R s m args below meth c cells slots Z A D aC ad C hI hV H locs lsA hP hS hL hz
  exact lv_i2s C.1 C.2.1 d rfl (k p l e R s m args below meth c cells slots Z A D aC ad C hI hV H locs lsA hP hS hL hz)
theorem jm_dup {sc : jm_S} {Y : jm_Y} {pc : Nat} {ls : jm_Ls} {st : List Value} {M : jm_M} {Q : Option Value → jm_M → Prop} {v : Value} (d : decode Y.2.1 pc = .ok (.dup, 1)) (hv : v.category = 1) (k : jm_J sc Y (pc + 1) ls (v :: v :: st) M Q) : jm_J sc Y pc ls (v :: st) M Q := by
  intro p l e R s m args below meth c cells slots Z A D aC ad C hI hV H locs lsA hP hS hL hz
  exact lv_dup C.1 C.2.1 d (by rw [jm_v_cat]; exact hv) (k p l e R s m args below meth c cells slots Z A D aC ad C hI hV H locs lsA hP hS hL hz)
theorem jm_pop {sc : jm_S} {Y : jm_Y} {pc : Nat} {ls : jm_Ls} {st : List Value} {M : jm_M} {Q : Option Value → jm_M → Prop} {v : Value} (d : decode Y.2.1 pc = .ok (.pop, 1)) (hv : v.category = 1) (k : jm_J sc Y (pc + 1) ls (st) M Q) : jm_J sc Y pc ls (v :: st) M Q := by
  intro p l e R s m args below meth c cells slots Z A D aC ad C hI hV H locs lsA hP hS hL hz
  exact lv_pop C.1 C.2.1 d (by rw [jm_v_cat]; exact hv) (k p l e R s m args below meth c cells slots Z A D aC ad C hI hV H locs lsA hP hS hL hz)
theorem jm_dup2 {sc : jm_S} {Y : jm_Y} {pc : Nat} {ls : jm_Ls} {st : List Value} {M : jm_M} {Q : Option Value → jm_M → Prop} {v w : Value} (d : decode Y.2.1 pc = .ok (.dup2, 1)) (hv : v.category = 1) (hw : w.category = 1) (k : jm_J sc Y (pc + 1) ls (v :: w :: v :: w :: st) M Q) : jm_J sc Y pc ls (v :: w :: st) M Q := by
  intro p l e R s m args below meth c cells slots Z A D aC ad C hI hV H locs lsA hP hS hL hz
  exact lv_dup2_11 C.1 C.2.1 d (by rw [jm_v_cat]; exact hv) (by rw [jm_v_cat]; exact hw) (k p l e R s m args below meth c cells slots Z A D aC ad C hI hV H locs lsA hP hS hL hz)
theorem jm_if_eq {sc : jm_S} {Y : jm_Y} {pc : Nat} {ls : jm_Ls} {st : List Value} {M : jm_M} {Q : Option Value → jm_M → Prop} {x : Int32} {off : Int} {tgt : Nat} (d : decode Y.2.1 pc = .ok (.ifCond .eq off, 3)) (ht : (pc : Int) + off = (tgt : Int)) (kt : x = 0 → jm_J sc Y tgt ls st M Q) (kf : ¬ x = 0 → jm_J sc Y (pc + 3) ls st M Q) : jm_J sc Y pc ls (.int x :: st) M Q := by
  intro p l e R s m args below meth c cells slots Z A D aC ad C hI hV H locs lsA hP hS hL hz
  exact lv_if_eq C.1 C.2.1 d ht (fun h => kt h p l e R s m args below meth c cells slots Z A D aC ad C hI hV H locs lsA hP hS hL hz) (fun h => kf h p l e R s m args below meth c cells slots Z A D aC ad C hI hV H locs lsA hP hS hL hz)
theorem jm_icmp_eq {sc : jm_S} {Y : jm_Y} {pc : Nat} {ls : jm_Ls} {st : List Value} {M : jm_M} {Q : Option Value → jm_M → Prop} {x y : Int32} {off : Int} {tgt : Nat} (d : decode Y.2.1 pc = .ok (.if_icmp .eq off, 3)) (ht : (pc : Int) + off = (tgt : Int)) (kt : x = y → jm_J sc Y tgt ls st M Q) (kf : ¬ x = y → jm_J sc Y (pc + 3) ls st M Q) : jm_J sc Y pc ls (.int y :: .int x :: st) M Q := by
  intro p l e R s m args below meth c cells slots Z A D aC ad C hI hV H locs lsA hP hS hL hz
  exact lv_icmp_eq C.1 C.2.1 d ht (fun h => kt h p l e R s m args below meth c cells slots Z A D aC ad C hI hV H locs lsA hP hS hL hz) (fun h => kf h p l e R s m args below meth c cells slots Z A D aC ad C hI hV H locs lsA hP hS hL hz)
theorem jm_if_ne {sc : jm_S} {Y : jm_Y} {pc : Nat} {ls : jm_Ls} {st : List Value} {M : jm_M} {Q : Option Value → jm_M → Prop} {x : Int32} {off : Int} {tgt : Nat} (d : decode Y.2.1 pc = .ok (.ifCond .ne off, 3)) (ht : (pc : Int) + off = (tgt : Int)) (kt : ¬ x = 0 → jm_J sc Y tgt ls st M Q) (kf : x = 0 → jm_J sc Y (pc + 3) ls st M Q) : jm_J sc Y pc ls (.int x :: st) M Q := by
  intro p l e R s m args below meth c cells slots Z A D aC ad C hI hV H locs lsA hP hS hL hz
  exact lv_if_ne C.1 C.2.1 d ht (fun h => kt h p l e R s m args below meth c cells slots Z A D aC ad C hI hV H locs lsA hP hS hL hz) (fun h => kf h p l e R s m args below meth c cells slots Z A D aC ad C hI hV H locs lsA hP hS hL hz)
theorem jm_icmp_ne {sc : jm_S} {Y : jm_Y} {pc : Nat} {ls : jm_Ls} {st : List Value} {M : jm_M} {Q : Option Value → jm_M → Prop} {x y : Int32} {off : Int} {tgt : Nat} (d : decode Y.2.1 pc = .ok (.if_icmp .ne off, 3)) (ht : (pc : Int) + off = (tgt : Int)) (kt : ¬ x = y → jm_J sc Y tgt ls st M Q) (kf : x = y → jm_J sc Y (pc + 3) ls st M Q) : jm_J sc Y pc ls (.int y :: .int x :: st) M Q := by
  intro p l e R s m args below meth c cells slots Z A D aC ad C hI hV H locs lsA hP hS hL hz
  exact lv_icmp_ne C.1 C.2.1 d ht (fun h => kt h p l e R s m args below meth c cells slots Z A D aC ad C hI hV H locs lsA hP hS hL hz) (fun h => kf h p l e R s m args below meth c cells slots Z A D aC ad C hI hV H locs lsA hP hS hL hz)
theorem jm_if_lt {sc : jm_S} {Y : jm_Y} {pc : Nat} {ls : jm_Ls} {st : List Value} {M : jm_M} {Q : Option Value → jm_M → Prop} {x : Int32} {off : Int} {tgt : Nat} (d : decode Y.2.1 pc = .ok (.ifCond .lt off, 3)) (ht : (pc : Int) + off = (tgt : Int)) (kt : x < 0 → jm_J sc Y tgt ls st M Q) (kf : ¬ x < 0 → jm_J sc Y (pc + 3) ls st M Q) : jm_J sc Y pc ls (.int x :: st) M Q := by
  intro p l e R s m args below meth c cells slots Z A D aC ad C hI hV H locs lsA hP hS hL hz
  exact lv_if_lt C.1 C.2.1 d ht (fun h => kt h p l e R s m args below meth c cells slots Z A D aC ad C hI hV H locs lsA hP hS hL hz) (fun h => kf h p l e R s m args below meth c cells slots Z A D aC ad C hI hV H locs lsA hP hS hL hz)
theorem jm_icmp_lt {sc : jm_S} {Y : jm_Y} {pc : Nat} {ls : jm_Ls} {st : List Value} {M : jm_M} {Q : Option Value → jm_M → Prop} {x y : Int32} {off : Int} {tgt : Nat} (d : decode Y.2.1 pc = .ok (.if_icmp .lt off, 3)) (ht : (pc : Int) + off = (tgt : Int)) (kt : x < y → jm_J sc Y tgt ls st M Q) (kf : ¬ x < y → jm_J sc Y (pc + 3) ls st M Q) : jm_J sc Y pc ls (.int y :: .int x :: st) M Q := by
  intro p l e R s m args below meth c cells slots Z A D aC ad C hI hV H locs lsA hP hS hL hz
  exact lv_icmp_lt C.1 C.2.1 d ht (fun h => kt h p l e R s m args below meth c cells slots Z A D aC ad C hI hV H locs lsA hP hS hL hz) (fun h => kf h p l e R s m args below meth c cells slots Z A D aC ad C hI hV H locs lsA hP hS hL hz)
theorem jm_if_ge {sc : jm_S} {Y : jm_Y} {pc : Nat} {ls : jm_Ls} {st : List Value} {M : jm_M} {Q : Option Value → jm_M → Prop} {x : Int32} {off : Int} {tgt : Nat} (d : decode Y.2.1 pc = .ok (.ifCond .ge off, 3)) (ht : (pc : Int) + off = (tgt : Int)) (kt : 0 ≤ x → jm_J sc Y tgt ls st M Q) (kf : ¬ 0 ≤ x → jm_J sc Y (pc + 3) ls st M Q) : jm_J sc Y pc ls (.int x :: st) M Q := by
  intro p l e R s m args below meth c cells slots Z A D aC ad C hI hV H locs lsA hP hS hL hz
  exact lv_if_ge C.1 C.2.1 d ht (fun h => kt h p l e R s m args below meth c cells slots Z A D aC ad C hI hV H locs lsA hP hS hL hz) (fun h => kf h p l e R s m args below meth c cells slots Z A D aC ad C hI hV H locs lsA hP hS hL hz)
theorem jm_icmp_ge {sc : jm_S} {Y : jm_Y} {pc : Nat} {ls : jm_Ls} {st : List Value} {M : jm_M} {Q : Option Value → jm_M → Prop} {x y : Int32} {off : Int} {tgt : Nat} (d : decode Y.2.1 pc = .ok (.if_icmp .ge off, 3)) (ht : (pc : Int) + off = (tgt : Int)) (kt : y ≤ x → jm_J sc Y tgt ls st M Q) (kf : ¬ y ≤ x → jm_J sc Y (pc + 3) ls st M Q) : jm_J sc Y pc ls (.int y :: .int x :: st) M Q := by
  intro p l e R s m args below meth c cells slots Z A D aC ad C hI hV H locs lsA hP hS hL hz
  exact lv_icmp_ge C.1 C.2.1 d ht (fun h => kt h p l e R s m args below meth c cells slots Z A D aC ad C hI hV H locs lsA hP hS hL hz) (fun h => kf h p l e R s m args below meth c cells slots Z A D aC ad C hI hV H locs lsA hP hS hL hz)
theorem jm_if_gt {sc : jm_S} {Y : jm_Y} {pc : Nat} {ls : jm_Ls} {st : List Value} {M : jm_M} {Q : Option Value → jm_M → Prop} {x : Int32} {off : Int} {tgt : Nat} (d : decode Y.2.1 pc = .ok (.ifCond .gt off, 3)) (ht : (pc : Int) + off = (tgt : Int)) (kt : 0 < x → jm_J sc Y tgt ls st M Q) (kf : ¬ 0 < x → jm_J sc Y (pc + 3) ls st M Q) : jm_J sc Y pc ls (.int x :: st) M Q := by
  intro p l e R s m args below meth c cells slots Z A D aC ad C hI hV H locs lsA hP hS hL hz
  exact lv_if_gt C.1 C.2.1 d ht (fun h => kt h p l e R s m args below meth c cells slots Z A D aC ad C hI hV H locs lsA hP hS hL hz) (fun h => kf h p l e R s m args below meth c cells slots Z A D aC ad C hI hV H locs lsA hP hS hL hz)
theorem jm_icmp_gt {sc : jm_S} {Y : jm_Y} {pc : Nat} {ls : jm_Ls} {st : List Value} {M : jm_M} {Q : Option Value → jm_M → Prop} {x y : Int32} {off : Int} {tgt : Nat} (d : decode Y.2.1 pc = .ok (.if_icmp .gt off, 3)) (ht : (pc : Int) + off = (tgt : Int)) (kt : y < x → jm_J sc Y tgt ls st M Q) (kf : ¬ y < x → jm_J sc Y (pc + 3) ls st M Q) : jm_J sc Y pc ls (.int y :: .int x :: st) M Q := by
  intro p l e R s m args below meth c cells slots Z A D aC ad C hI hV H locs lsA hP hS hL hz
  exact lv_icmp_gt C.1 C.2.1 d ht (fun h => kt h p l e R s m args below meth c cells slots Z A D aC ad C hI hV H locs lsA hP hS hL hz) (fun h => kf h p l e R s m args below meth c cells slots Z A D aC ad C hI hV H locs lsA hP hS hL hz)
theorem jm_if_le {sc : jm_S} {Y : jm_Y} {pc : Nat} {ls : jm_Ls} {st : List Value} {M : jm_M} {Q : Option Value → jm_M → Prop} {x : Int32} {off : Int} {tgt : Nat} (d : decode Y.2.1 pc = .ok (.ifCond .le off, 3)) (ht : (pc : Int) + off = (tgt : Int)) (kt : x ≤ 0 → jm_J sc Y tgt ls st M Q) (kf : ¬ x ≤ 0 → jm_J sc Y (pc + 3) ls st M Q) : jm_J sc Y pc ls (.int x :: st) M Q := by
  intro p l e R s m args below meth c cells slots Z A D aC ad C hI hV H locs lsA hP hS hL hz
  exact lv_if_le C.1 C.2.1 d ht (fun h => kt h p l e R s m args below meth c cells slots Z A D aC ad C hI hV H locs lsA hP hS hL hz) (fun h => kf h p l e R s m args below meth c cells slots Z A D aC ad C hI hV H locs lsA hP hS hL hz)
theorem jm_icmp_le {sc : jm_S} {Y : jm_Y} {pc : Nat} {ls : jm_Ls} {st : List Value} {M : jm_M} {Q : Option Value → jm_M → Prop} {x y : Int32} {off : Int} {tgt : Nat} (d : decode Y.2.1 pc = .ok (.if_icmp .le off, 3)) (ht : (pc : Int) + off = (tgt : Int)) (kt : x ≤ y → jm_J sc Y tgt ls st M Q) (kf : ¬ x ≤ y → jm_J sc Y (pc + 3) ls st M Q) : jm_J sc Y pc ls (.int y :: .int x :: st) M Q := by
  intro p l e R s m args below meth c cells slots Z A D aC ad C hI hV H locs lsA hP hS hL hz
  exact lv_icmp_le C.1 C.2.1 d ht (fun h => kt h p l e R s m args below meth c cells slots Z A D aC ad C hI hV H locs lsA hP hS hL hz) (fun h => kf h p l e R s m args below meth c cells slots Z A D aC ad C hI hV H locs lsA hP hS hL hz)
theorem jm_goto {sc : jm_S} {Y : jm_Y} {pc : Nat} {ls : jm_Ls} {st : List Value} {M : jm_M} {Q : Option Value → jm_M → Prop} {off : Int} {tgt : Nat} (d : decode Y.2.1 pc = .ok (.goto off, 3)) (ht : (pc : Int) + off = (tgt : Int)) (k : jm_J sc Y tgt ls st M Q) : jm_J sc Y pc ls st M Q := by
  intro p l e R s m args below meth c cells slots Z A D aC ad C hI hV H locs lsA hP hS hL hz
  exact lv_goto C.1 C.2.1 d ht (k p l e R s m args below meth c cells slots Z A D aC ad C hI hV H locs lsA hP hS hL hz)
theorem jm_tin {sc : jm_S} {Y : jm_Y} {pc : Nat} {ls : jm_Ls} {st : List Value} {M : jm_M} {Q : Option Value → jm_M → Prop} {dflt lo hi : Int} {offs : Array Int} {len : Nat} {x : Int32} {off : Int} {tgt : Nat} (d : decode Y.2.1 pc = .ok (.tableswitch dflt lo hi offs, len)) (h1 : ¬ x.toInt < lo) (h2 : ¬ hi < x.toInt) (ho : offs[(x.toInt - lo).toNat]? = some off) (ht : (pc : Int) + off = (tgt : Int)) (k : jm_J sc Y tgt ls st M Q) : jm_J sc Y pc ls (.int x :: st) M Q := by
  intro p l e R s m args below meth c cells slots Z A D aC ad C hI hV H locs lsA hP hS hL hz
  exact lv_tableIn C.1 C.2.1 d h1 h2 ho ht (k p l e R s m args below meth c cells slots Z A D aC ad C hI hV H locs lsA hP hS hL hz)
theorem jm_tout {sc : jm_S} {Y : jm_Y} {pc : Nat} {ls : jm_Ls} {st : List Value} {M : jm_M} {Q : Option Value → jm_M → Prop} {dflt lo hi : Int} {offs : Array Int} {len : Nat} {x : Int32} {tgt : Nat} (d : decode Y.2.1 pc = .ok (.tableswitch dflt lo hi offs, len)) (h : x.toInt < lo ∨ hi < x.toInt) (ht : (pc : Int) + dflt = (tgt : Int)) (k : jm_J sc Y tgt ls st M Q) : jm_J sc Y pc ls (.int x :: st) M Q := by
  intro p l e R s m args below meth c cells slots Z A D aC ad C hI hV H locs lsA hP hS hL hz
  exact lv_tableOut C.1 C.2.1 d h ht (k p l e R s m args below meth c cells slots Z A D aC ad C hI hV H locs lsA hP hS hL hz)
theorem jm_look {sc : jm_S} {Y : jm_Y} {pc : Nat} {ls : jm_Ls} {st : List Value} {M : jm_M} {Q : Option Value → jm_M → Prop} {dflt : Int} {ps : Array (Int × Int)} {len : Nat} {x : Int32} {off : Int} {tgt : Nat} (d : decode Y.2.1 pc = .ok (.lookupswitch dflt ps, len)) (hp : (ps.toList.zip (ps.toList.drop 1)).all (fun (a, next) => a.1 < next.1) = true) (ho : Op.lookupswitch.offset ps.toList dflt x.toInt = off) (ht : (pc : Int) + off = (tgt : Int)) (k : jm_J sc Y tgt ls st M Q) : jm_J sc Y pc ls (.int x :: st) M Q := by
  intro p l e R s m args below meth c cells slots Z A D aC ad C hI hV H locs lsA hP hS hL hz
  exact lv_lookup C.1 C.2.1 d hp ho ht (k p l e R s m args below meth c cells slots Z A D aC ad C hI hV H locs lsA hP hS hL hz)
theorem jm_ret {sc : jm_S} {Y : jm_Y} {pc : Nat} {ls : jm_Ls} {st : List Value} {M : jm_M} {Q : Option Value → jm_M → Prop} {v : Int32} {ty : FieldType} (d : decode Y.2.1 pc = .ok (.ireturn, 1)) (hr : Y.2.2.2.1 = some ty) (hn : narrow ty (.int v) = .int v) (hq : Q (some (.int v)) M) : jm_J sc Y pc ls [.int v] M Q := by
  intro p l e R s m args below meth c cells slots Z A D aC ad C hI hV H locs lsA hP hS hL hz
  exact hI v M H locs pc lsA ty hq hP hS hr hn d
theorem jm_retv {sc : jm_S} {Y : jm_Y} {pc : Nat} {ls : jm_Ls} {st : List Value} {M : jm_M} {Q : Option Value → jm_M → Prop} (d : decode Y.2.1 pc = .ok (.return_, 1)) (hr : Y.2.2.2.1 = none) (hq : Q none M) : jm_J sc Y pc ls [] M Q := by
  intro p l e R s m args below meth c cells slots Z A D aC ad C hI hV H locs lsA hP hS hL hz
  exact hV M H locs pc lsA hq hP hS hr d
end
section
/-! fields, arrays, calls -/
def jm_F (own : String) (idx ci k : Nat) : Prop := ∃ (C : String) (T : u_T) (N : Nat), classes[ci]? = some (C, T, N) ∧ k < N ∧ (T k).1 = C ∧ Cond.fieldLink own idx C (T k).2.1 (T k).2.2.1 ∈ jm_tb ∧ (∀ w ∈ u_ws C T N, w ∈ jm_tb)
/-- a field of ints that may be written -/
def jm_FW (own : String) (idx ci k : Nat) : Prop := ∃ (C : String) (T : u_T) (N : Nat) (ty0 : Nat → FieldType), classes[ci]? = some (C, T, N) ∧ k < N ∧ (T k).1 = C ∧ Cond.fieldLink own idx C (T k).2.1 (T k).2.2.1 ∈ jm_tb ∧ (∀ w ∈ u_ws C T N, w ∈ jm_tb) ∧ (T k).2.2.2 = false ∧ parseFieldDescriptor (T k).2.2.1 = some .int ∧ (∀ k, k < N → parseFieldDescriptor (T k).2.2.1 = some (ty0 k)) ∧ (∀ a, a < N → ∀ b, b < N → a ≠ b → (T a).2.1 ≠ (T b).2.1)
theorem jm_FW.F {own : String} {idx ci k : Nat} (h : jm_FW own idx ci k) : jm_F own idx ci k := by
  obtain ⟨C, T, N, ty0, h1, h2, h3, h4, h5, -⟩ := h
  exact ⟨C, T, N, h1, h2, h3, h4, h5⟩
theorem jm_getI {sc : jm_S} {Y : jm_Y} {pc : Nat} {ls : jm_Ls} {st : List Value} {M : jm_M} {Q : Option Value → jm_M → Prop} {idx ci k i n : Nat} (d : decode Y.2.1 pc = .ok (.getfield idx, 3)) (F : jm_F Y.1.cls idx ci k) (hob : jm_ob i = some (ci, n)) (hkn : k < n) (hr : jm_rf i k = none) (kk : jm_J sc Y (pc + 3) ls (.int (M i k) :: st) M Q) : jm_J sc Y pc ls (.ref i :: st) M Q := by
  intro p l e R s m args below meth c cells slots Z A D aC ad C hI hV H locs lsA hP hS hL hz
  obtain ⟨hx, hb, hml, hown, hts, hK, hij, hA, hZ, hT, hR, hC, hsc⟩ := id C
  obtain ⟨Cn, T, N, f1, f2, f3, f4, f5⟩ := F
  exact va_get (D := D) (ci := ci) (v := .int (M i k)) (C := Cn) (T := T) (N := N) (ref := Cn) hx hb hts f5 hown hK hP i (by rw [jm_at (jm_ob_lt hob), jm_e_ob hob]) f1 k f2 (hts _ f4) (fun x h => by rw [f3] at h; exact h) (by rw [jm_fs_at hkn, hr]) d (kk p l e R s m args below meth c cells slots Z A D aC ad C hI hV H locs lsA hP hS hL hz)
theorem jm_getR {sc : jm_S} {Y : jm_Y} {pc : Nat} {ls : jm_Ls} {st : List Value} {M : jm_M} {Q : Option Value → jm_M → Prop} {idx ci k i n j : Nat} (d : decode Y.2.1 pc = .ok (.getfield idx, 3)) (F : jm_F Y.1.cls idx ci k) (hob : jm_ob i = some (ci, n)) (hkn : k < n) (hr : jm_rf i k = some j) (kk : jm_J sc Y (pc + 3) ls (.ref j :: st) M Q) : jm_J sc Y pc ls (.ref i :: st) M Q := by
  intro p l e R s m args below meth c cells slots Z A D aC ad C hI hV H locs lsA hP hS hL hz
  obtain ⟨hx, hb, hml, hown, hts, hK, hij, hA, hZ, hT, hR, hC, hsc⟩ := id C
  obtain ⟨Cn, T, N, f1, f2, f3, f4, f5⟩ := F
  exact va_get (D := D) (ci := ci) (v := .ref (ad j)) (C := Cn) (T := T) (N := N) (ref := Cn) hx hb hts f5 hown hK hP i (by rw [jm_at (jm_ob_lt hob), jm_e_ob hob]) f1 k f2 (hts _ f4) (fun x h => by rw [f3] at h; exact h) (by rw [jm_fs_at hkn, hr]) d (kk p l e R s m args below meth c cells slots Z A D aC ad C hI hV H locs lsA hP hS hL hz)
theorem jm_put {sc : jm_S} {Y : jm_Y} {pc : Nat} {ls : jm_Ls} {st : List Value} {M : jm_M} {Q : Option Value → jm_M → Prop} {idx ci k i n : Nat} {v : Int32} (d : decode Y.2.1 pc = .ok (.putfield idx, 3)) (F : jm_FW Y.1.cls idx ci k) (hob : jm_ob i = some (ci, n)) (hkn : k < n) (hr : jm_rf i k = none) (kk : jm_J sc Y (pc + 3) ls st (jm_sf M i (upd (M i) k v)) Q) : jm_J sc Y pc ls (.int v :: .ref i :: st) M Q := by
  intro p l e R s m args below meth c cells slots Z A D aC ad C hI hV H locs lsA hP hS hL hz
  obtain ⟨hx, hb, hml, hown, hts, hK, hij, hA, hZ, hT, hR, hC, hsc⟩ := id C
  obtain ⟨Cn, T, N, ty0, f1, f2, f3, f4, f5, f6, f7, f8, f9⟩ := F
  have hs : (jm_ws aC ad M).set i (ad i, .inr (ci, (jm_fs ad M i n).set k (.int v))) = jm_ws aC ad (jm_sf M i (upd (M i) k v)) := jm_set (jm_ob_lt hob) (by rw [jm_e_ob hob, jm_fs_set hkn hr])
  refine va_put (D := D) (ci := ci) (v := .int v) (ty := .int) (C := Cn) (T := T) (N := N) (ref := Cn) (fs := jm_fs ad M i n) hx hb hts f5 ty0 f8 f9 hown hK hP (jm_D hij hA) hS i (by rw [jm_at (jm_ob_lt hob), jm_e_ob hob]) f1 k f2 (hts _ f4) (fun x h => by rw [f3] at h; exact h) f6 f7 rfl rfl (by rw [jm_fs_len]; exact hkn) d (fun H1 locs1 hP1 hD1 hS1 => ?_)
  rw [hs] at hP1
  exact kk p l e R s m args below meth c cells slots Z A D aC ad C hI hV H1 locs1 lsA hP1 hS1 hL hz
theorem jm_iald {sc : jm_S} {Y : jm_Y} {pc : Nat} {ls : jm_Ls} {st : List Value} {M : jm_M} {Q : Option Value → jm_M → Prop} {i n : Nat} {x : Int32} (d : decode Y.2.1 pc = .ok (.iaload, 1)) (har : jm_ar i = some (0, n)) (hin : vp_in x n) (kk : jm_J sc Y (pc + 1) ls (.int (M i x.toNatClampNeg) :: st) M Q) : jm_J sc Y pc ls (.int x :: .ref i :: st) M Q := by
  intro p l e R s m args below meth c cells slots Z A D aC ad C hI hV H locs lsA hP hS hL hz
  obtain ⟨hx, hb, hml, hown, hts, hK, hij, hA, hZ, hT, hR, hC, hsc⟩ := id C
  exact va_iald hx hb hK hP i 0 (by rw [jm_at (jm_ar_lt har), jm_e_ar har (by decide)]) rfl hin d (kk p l e R s m args below meth c cells slots Z A D aC ad C hI hV H locs lsA hP hS hL hz)
theorem jm_zald {sc : jm_S} {Y : jm_Y} {pc : Nat} {ls : jm_Ls} {st : List Value} {M : jm_M} {Q : Option Value → jm_M → Prop} {i n : Nat} {x : Int32} (d : decode Y.2.1 pc = .ok (.baload, 1)) (har : jm_ar i = some (1, n)) (hin : vp_in x n) (kk : jm_J sc Y (pc + 1) ls (.int (M i x.toNatClampNeg) :: st) M Q) : jm_J sc Y pc ls (.int x :: .ref i :: st) M Q := by
  intro p l e R s m args below meth c cells slots Z A D aC ad C hI hV H locs lsA hP hS hL hz
  obtain ⟨hx, hb, hml, hown, hts, hK, hij, hA, hZ, hT, hR, hC, hsc⟩ := id C
  exact va_zald hx hb hK hP i 1 (by rw [jm_at (jm_ar_lt har), jm_e_ar har (by decide)]) rfl hin d (kk p l e R s m args below meth c cells slots Z A D aC ad C hI hV H locs lsA hP hS hL hz)
theorem jm_iast {sc : jm_S} {Y : jm_Y} {pc : Nat} {ls : jm_Ls} {st : List Value} {M : jm_M} {Q : Option Value → jm_M → Prop} {i n : Nat} {x v : Int32} (d : decode Y.2.1 pc = .ok (.iastore, 1)) (har : jm_ar i = some (0, n)) (hin : vp_in x n) (kk : jm_J sc Y (pc + 1) ls st (jm_sf M i (upd (M i) x.toNatClampNeg v)) Q) : jm_J sc Y pc ls (.int v :: .int x :: .ref i :: st) M Q := by
  intro p l e R s m args below meth c cells slots Z A D aC ad C hI hV H locs lsA hP hS hL hz
  obtain ⟨hx, hb, hml, hown, hts, hK, hij, hA, hZ, hT, hR, hC, hsc⟩ := id C
  have hs : (jm_ws aC ad M).set i (ad i, .inl (aC 0, n, .inl (upd (M i) x.toNatClampNeg v))) = jm_ws aC ad (jm_sf M i (upd (M i) x.toNatClampNeg v)) := jm_set (jm_ar_lt har) (by rw [jm_e_ar har (by decide), jm_sf_s])
  refine va_iast hx hb hK hP (jm_D hij hA) hS i 0 (by rw [jm_at (jm_ar_lt har), jm_e_ar har (by decide)]) rfl hin d (fun H1 locs1 hP1 hD1 hS1 => ?_)
  rw [hs] at hP1
  exact kk p l e R s m args below meth c cells slots Z A D aC ad C hI hV H1 locs1 lsA hP1 hS1 hL hz
theorem jm_zast {sc : jm_S} {Y : jm_Y} {pc : Nat} {ls : jm_Ls} {st : List Value} {M : jm_M} {Q : Option Value → jm_M → Prop} {i n : Nat} {x v : Int32} (d : decode Y.2.1 pc = .ok (.bastore, 1)) (har : jm_ar i = some (1, n)) (hin : vp_in x n) (hv : vp_nar .boolean v = v) (kk : jm_J sc Y (pc + 1) ls st (jm_sf M i (upd (M i) x.toNatClampNeg v)) Q) : jm_J sc Y pc ls (.int v :: .int x :: .ref i :: st) M Q := by
  intro p l e R s m args below meth c cells slots Z A D aC ad C hI hV H locs lsA hP hS hL hz
  obtain ⟨hx, hb, hml, hown, hts, hK, hij, hA, hZ, hT, hR, hC, hsc⟩ := id C
  have hs : (jm_ws aC ad M).set i (ad i, .inl (aC 1, n, .inl (upd (M i) x.toNatClampNeg (vp_nar .boolean v)))) = jm_ws aC ad (jm_sf M i (upd (M i) x.toNatClampNeg v)) := by rw [hv]; exact jm_set (jm_ar_lt har) (by rw [jm_e_ar har (by decide), jm_sf_s])
  refine va_zast hx hb hK hP (jm_D hij hA) hS i 1 (by rw [jm_at (jm_ar_lt har), jm_e_ar har (by decide)]) rfl hin d (fun H1 locs1 hP1 hD1 hS1 => ?_)
  rw [hs] at hP1
  exact kk p l e R s m args below meth c cells slots Z A D aC ad C hI hV H1 locs1 lsA hP1 hS1 hL hz
theorem jm_aald {sc : jm_S} {Y : jm_Y} {pc : Nat} {ls : jm_Ls} {st : List Value} {M : jm_M} {Q : Option Value → jm_M → Prop} {i n j : Nat} {x : Int32} (d : decode Y.2.1 pc = .ok (.aaload, 1)) (har : jm_ar i = some (2, n)) (hin : vp_in x n) (hr : jm_rf i x.toNatClampNeg = some j) (kk : jm_J sc Y (pc + 1) ls (.ref j :: st) M Q) : jm_J sc Y pc ls (.int x :: .ref i :: st) M Q := by
  intro p l e R s m args below meth c cells slots Z A D aC ad C hI hV H locs lsA hP hS hL hz
  obtain ⟨hx, hb, hml, hown, hts, hK, hij, hA, hZ, hT, hR, hC, hsc⟩ := id C
  refine va_aldq (f := fun k => (jm_rf i k).map ad) hx hb hK hP i 2 (by rw [jm_at (jm_ar_lt har), jm_e_aq har (by decide)]) rfl hin d ?_
  rw [hr]
  exact kk p l e R s m args below meth c cells slots Z A D aC ad C hI hV H locs lsA hP hS hL hz
theorem jm_aaldI {sc : jm_S} {Y : jm_Y} {pc : Nat} {ls : jm_Ls} {st : List Value} {M : jm_M} {Q : Option Value → jm_M → Prop} {i n j : Nat} {x : Int32} (d : decode Y.2.1 pc = .ok (.aaload, 1)) (har : jm_ar i = some (3, n)) (hin : vp_in x n) (hr : jm_rf i x.toNatClampNeg = some j) (kk : jm_J sc Y (pc + 1) ls (.ref j :: st) M Q) : jm_J sc Y pc ls (.int x :: .ref i :: st) M Q := by
  intro p l e R s m args below meth c cells slots Z A D aC ad C hI hV H locs lsA hP hS hL hz
  obtain ⟨hx, hb, hml, hown, hts, hK, hij, hA, hZ, hT, hR, hC, hsc⟩ := id C
  have hlt : x.toNatClampNeg < n := Nat.not_le.mp fun q => hin (Or.inr q)
  have hPi := hP i _ (by rw [jm_at (jm_ar_lt har), jm_e_aq har (by decide)])
  refine W.aald (v := .ref (ad j)) (ty := .array .int) hx hb hPi ((hK.2 3 _ rfl).1 n (fun k => va_rf ((jm_rf i k).map ad))) rfl (fun q => by cases q) (by show ¬ (x < 0 ∨ (arrV _ _ _).slots.size ≤ _); rw [arrV_size]; exact hin) (by show (arrV _ _ _).slots[_]? = _; rw [arrV_read _ _ hlt]; show some (va_rf (Option.map ad (jm_rf i x.toNatClampNeg))) = _; rw [hr]; rfl) rfl rfl d ?_
  exact kk p l e R s m args below meth c cells slots Z A D aC ad C hI hV H locs lsA hP hS hL hz
theorem jm_alen {sc : jm_S} {Y : jm_Y} {pc : Nat} {ls : jm_Ls} {st : List Value} {M : jm_M} {Q : Option Value → jm_M → Prop} {i t n : Nat} (d : decode Y.2.1 pc = .ok (.arraylength, 1)) (har : jm_ar i = some (t, n)) (ht : t = 0) (kk : jm_J sc Y (pc + 1) ls (.int (nI n) :: st) M Q) : jm_J sc Y pc ls (.ref i :: st) M Q := by
  intro p l e R s m args below meth c cells slots Z A D aC ad C hI hV H locs lsA hP hS hL hz
  obtain ⟨hx, hb, hml, hown, hts, hK, hij, hA, hZ, hT, hR, hC, hsc⟩ := id C
  subst ht
  exact va_alen (x := (n, .inl (M i))) hx hb hK hP i 0 (by rw [jm_at (jm_ar_lt har), jm_e_ar har (by decide)]) rfl rfl d (kk p l e R s m args below meth c cells slots Z A D aC ad C hI hV H locs lsA hP hS hL hz)
theorem jm_sld {L : Nat} {xs : Nat → Int32} {Y : jm_Y} {pc : Nat} {ls : jm_Ls} {st : List Value} {M : jm_M} {Q : Option Value → jm_M → Prop} {x : Int32} (d : decode Y.2.1 pc = .ok (.iaload, 1)) (hin : vp_in x L) (kk : jm_J (some (L, xs)) Y (pc + 1) ls (.int (xs x.toNatClampNeg) :: st) M Q) : jm_J (some (L, xs)) Y pc ls (.int x :: .ref 1000 :: st) M Q := by
  intro p l e R s m args below meth c cells slots Z A D aC ad C hI hV H locs lsA hP hS hL hz
  obtain ⟨hx, hb, hml, hown, hts, hK, hij, hA, hZ, hT, hR, hC, hsc⟩ := id C
  exact va_sld hx hb hsc.1 hsc.2.1 hsc.2.2 hS hin d (kk p l e R s m args below meth c cells slots Z A D aC ad C hI hV H locs lsA hP hS hL hz)
theorem jm_slen {L : Nat} {xs : Nat → Int32} {Y : jm_Y} {pc : Nat} {ls : jm_Ls} {st : List Value} {M : jm_M} {Q : Option Value → jm_M → Prop} (d : decode Y.2.1 pc = .ok (.arraylength, 1)) (kk : jm_J (some (L, xs)) Y (pc + 1) ls (.int (nI L) :: st) M Q) : jm_J (some (L, xs)) Y pc ls (.ref 1000 :: st) M Q := by
  intro p l e R s m args below meth c cells slots Z A D aC ad C hI hV H locs lsA hP hS hL hz
  obtain ⟨hx, hb, hml, hown, hts, hK, hij, hA, hZ, hT, hR, hC, hsc⟩ := id C
  exact va_slen hx hb hsc.1 hsc.2.1 hsc.2.2 hS d (kk p l e R s m args below meth c cells slots Z A D aC ad C hI hV H locs lsA hP hS hL hz)
theorem jm_abv {sc : jm_S} {Y : jm_Y} {pc : Nat} {ls : jm_Ls} {st : List Value} {M : jm_M} {Q : Option Value → jm_M → Prop} {idx : Nat} (d : decode Y.2.1 pc = .ok (.getstatic idx, 3)) (hw : Cond.fieldLink Y.1.cls idx "WeirWords$Kinds" "ABOVE" "[I" ∈ jm_tb) (kk : jm_J sc Y (pc + 3) ls (.ref 1001 :: st) M Q) : jm_J sc Y pc ls st M Q := by
  intro p l e R s m args below meth c cells slots Z A D aC ad C hI hV H locs lsA hP hS hL hz
  obtain ⟨hx, hb, hml, hown, hts, hK, hij, hA, hZ, hT, hR, hC, hsc⟩ := id C
  exact va_gets hx hb hZ hS hown (hts _ hw) (fun x h => h) d (kk p l e R s m args below meth c cells slots Z A D aC ad C hI hV H locs lsA hP hS hL hz)
theorem jm_abld {sc : jm_S} {Y : jm_Y} {pc : Nat} {ls : jm_Ls} {st : List Value} {M : jm_M} {Q : Option Value → jm_M → Prop} {x v : Int32} (d : decode Y.2.1 pc = .ok (.iaload, 1)) (hin : vp_in x 6) (hv : jm_ab x.toNatClampNeg = .int v) (kk : jm_J sc Y (pc + 1) ls (.int v :: st) M Q) : jm_J sc Y pc ls (.int x :: .ref 1001 :: st) M Q := by
  intro p l e R s m args below meth c cells slots Z A D aC ad C hI hV H locs lsA hP hS hL hz
  obtain ⟨hx, hb, hml, hown, hts, hK, hij, hA, hZ, hT, hR, hC, hsc⟩ := id C
  exact va_ti hx hb hT hS hin hv d (kk p l e R s m args below meth c cells slots Z A D aC ad C hI hV H locs lsA hP hS hL hz)
theorem jm_copy {sc : jm_S} {Y : jm_Y} {pc : Nat} {ls : jm_Ls} {st : List Value} {M : jm_M} {Q : Option Value → jm_M → Prop} {idx i j n0 n1 : Nat} {sp dp n : Int32} (d : decode Y.2.1 pc = .ok (.invokestatic idx, 3)) (hl : Cond.methodLink Y.1.cls idx arraycopyName ∈ jm_tb) (hw : Cond.native arraycopyName ∈ jm_tb ∧ Cond.static arraycopyName ∈ jm_tb ∧ Cond.initialized "java/lang/System" ∈ jm_tb) (hi : jm_ar i = some (0, n0)) (hj : jm_ar j = some (0, n1)) (h1 : ¬ sp < 0) (h2 : ¬ dp < 0) (h3 : ¬ n < 0) (h4 : sp.toNatClampNeg + n.toNatClampNeg ≤ n0) (h5 : dp.toNatClampNeg + n.toNatClampNeg ≤ n1)
    (hfr : 1 ≤ Y.2.2.2.2.1) (hlo : (st.map fun v => v.category).sum + (nativeFrameWords "java/lang/System" "arraycopy" 5 + 11) ≤ Y.2.2.2.2.2) (kk : jm_J sc Y (pc + 3) ls st (jm_sf M j (va_cpy (M i) (M j) sp.toNatClampNeg dp.toNatClampNeg n.toNatClampNeg)) Q) : jm_J sc Y pc ls (.int n :: .int dp :: .ref j :: .int sp :: .ref i :: st) M Q := by
  intro p l e R s m args below meth c cells slots Z A D aC ad C hI hV H locs lsA hP hS hL hz
  obtain ⟨hx, hb, hml, hown, hts, hK, hij, hA, hZ, hT, hR, hC, hsc⟩ := id C
  have hs : (jm_ws aC ad M).set j (ad j, .inl (aC 0, n1, .inl (va_cpy (M i) (M j) sp.toNatClampNeg dp.toNatClampNeg n.toNatClampNeg))) = jm_ws aC ad (jm_sf M j (va_cpy (M i) (M j) sp.toNatClampNeg dp.toNatClampNeg n.toNatClampNeg)) := jm_set (jm_ar_lt hj) (by rw [jm_e_ar hj (by decide), jm_sf_s])
  refine va_copyi hx hb (hml.trans hz.symm) hown (hts _ hl) (hts _ hw.1) (hts _ hw.2.1) (hts _ hw.2.2) hK hP (jm_D hij hA) hS i j 0 0 (by rw [jm_at (jm_ar_lt hi), jm_e_ar hi (by decide)]) (by rw [jm_at (jm_ar_lt hj), jm_e_ar hj (by decide)]) rfl rfl rfl h1 h2 h3 h4 h5 (fun _ _ => rfl) (Nat.le_trans hfr hR.1) (Nat.le_trans (by rw [List.map_map]; have e : ((fun v : Value => v.category) ∘ jm_v ad) = (fun v => v.category) := funext (fun v => jm_v_cat ad v); rw [e]; exact hlo) hR.2) d (fun H1 locs1 hP1 hD1 hS1 => ?_)
  rw [hs] at hP1
  exact kk p l e R s m args below meth c cells slots Z A D aC ad C hI hV H1 locs1 lsA hP1 hS1 hL hz
/-- weaker ends -/
theorem jm_wk {sc : jm_S} {Y : jm_Y} {pc : Nat} {ls : jm_Ls} {st : List Value} {M : jm_M} {Q Q' : Option Value → jm_M → Prop} (h : jm_J sc Y pc ls st M Q) (hQ : ∀ o M1, Q o M1 → Q' o M1) : jm_J sc Y pc ls st M Q' := by
  intro p l e R s m args below meth c cells slots Z A D aC ad C hI hV
  exact h p l e R s m args below meth c cells slots Z A D aC ad C (fun v M1 H1 locs1 pc1 ls1 ty hq => hI v M1 H1 locs1 pc1 ls1 ty (hQ _ _ hq)) (fun M1 H1 locs1 pc1 ls1 hq => hV M1 H1 locs1 pc1 ls1 (hQ _ _ hq))
def jm_is (o : Option Value) (M1 : jm_M) : Option Value → jm_M → Prop := fun o' M' => o' = o ∧ M' = M1
def jm_Pre (A : Nat → Prop) (D : va_G) (aC ad : Nat → Nat) (M : jm_M) (U : State) : Prop := va_P D classes (jm_ws aC ad M) U.heap ∧ va_K D classes (jm_tys aC) U ∧ va_Z "WeirWords$Kinds" "ABOVE" "[I" (.ref (ad 1001)) A U U.heap ∧ va_T .int (ad 1001) 6 jm_ab A U U.heap
def jm_rm (Y : jm_Y) : Room := { frames := Y.2.2.2.2.1, cells := 0, slots := 0, locals := Y.2.2.2.2.2 }
def jm_wds (Y : jm_Y) : List Cond := Cond.code Y.1 Y.2.1 Y.2.2.1 Y.2.2.2.1 :: jm_tb
theorem jm_met {Y : jm_Y} {M : jm_M} {Q : Option Value → jm_M → Prop} {vs : List Value} (l : Launch) (A : Nat → Prop) (D : va_G) (aC ad : Nat → Nat) (hij : ∀ i j, i < 144 → j < 144 → ad i = ad j → i = j) (hA : ∀ i, i < 144 → A (ad i)) (hp : plainName Y.1.cls = true) (hen : vs.length ≤ Y.2.2.1) (hcat : ∀ v ∈ vs, v.category = 1) (hJ : jm_J none Y 0 (jm_en Y.2.2.1 vs) [] M Q) :
    ((∃ ty, Y.2.2.2.1 = some ty) → Met l Y.1 (jm_wds Y) (jm_rm Y) (va_Pc (vs.map (jm_v ad)) (jm_Pre A D aC ad M)) (va_Qi (fun r M1 => Q (some (.int r)) M1) (fun M1 t => va_P D classes (jm_ws aC ad M1) t.heap) A) 0 0 A) ∧
    (Y.2.2.2.1 = none → Met l Y.1 (jm_wds Y) (jm_rm Y) (va_Pc (vs.map (jm_v ad)) (jm_Pre A D aC ad M)) (va_Qv (fun M1 => Q none M1) (fun M1 t => va_P D classes (jm_ws aC ad M1) t.heap) A) 0 0 A) := by
  constructor
  · rintro ⟨ty, hty⟩
    refine Met.ofW (cc := Y.2.1) (maxL := Y.2.2.1) (ret := Y.2.2.2.1) hp rfl ?_
    intro p e s m args below meth c s₁ B hml hv
    obtain ⟨rfl, hP, hK, hZ, hT⟩ := hv
    have hts := atoms_spec (ws := jm_wds Y) B.pre
    rw [lg_entry_eq]
    have hL := jm_entry ad vs hen hcat
    refine hJ p l e _ s m _ below meth c 0 0 _ A D aC ad ⟨B.exec, B.bytes, hml, findClass_of_methodNamed B.named, fun w hw => hts w (List.mem_cons_of_mem _ hw), hK, hij, hA, hZ, hT, ⟨Nat.le_refl _, Nat.le_refl _⟩, ⟨Nat.le_refl _, Nat.le_refl _⟩, trivial⟩ ?_ ?_ s.heap [] _ hP va_S.rf hL ?_
    · intro v M1 H1 locs1 pc1 ls1 ty1 hq hP1 hS1 hty1 hn d
      exact W.zret B.exec B.bytes (B.returns.trans hty1) hn (fun t ht hW => ⟨⟨v, M1, rfl, hq, by show va_P D classes (jm_ws aC ad M1) t.heap; rw [ht]; exact hP1⟩, hS1.F ht⟩) hS1.2.2 d B.notSynchronized
    · intro M1 H1 locs1 pc1 ls1 hq hP1 hS1 hty1 d
      rw [hty] at hty1
      cases hty1
    · rw [hL.1]; simp [jm_en]; omega
  · intro hty
    refine Met.ofW (cc := Y.2.1) (maxL := Y.2.2.1) (ret := Y.2.2.2.1) hp rfl ?_
    intro p e s m args below meth c s₁ B hml hv
    obtain ⟨rfl, hP, hK, hZ, hT⟩ := hv
    have hts := atoms_spec (ws := jm_wds Y) B.pre
    rw [lg_entry_eq]
    have hL := jm_entry ad vs hen hcat
    refine hJ p l e _ s m _ below meth c 0 0 _ A D aC ad ⟨B.exec, B.bytes, hml, findClass_of_methodNamed B.named, fun w hw => hts w (List.mem_cons_of_mem _ hw), hK, hij, hA, hZ, hT, ⟨Nat.le_refl _, Nat.le_refl _⟩, ⟨Nat.le_refl _, Nat.le_refl _⟩, trivial⟩ ?_ ?_ s.heap [] _ hP va_S.rf hL ?_
    · intro v M1 H1 locs1 pc1 ls1 ty1 hq hP1 hS1 hty1 hn d
      rw [hty] at hty1
      cases hty1
    · intro M1 H1 locs1 pc1 ls1 hq hP1 hS1 hty1 d
      exact W.vret B.exec B.bytes (B.returns.trans hty1) (fun t ht hW => ⟨⟨M1, rfl, hq, by show va_P D classes (jm_ws aC ad M1) t.heap; rw [ht]; exact hP1⟩, hS1.F ht⟩) hS1.2.2 d B.notSynchronized
    · rw [hL.1]; simp [jm_en]; omega
/-- what the tables say of a call -/
def jm_LB (own : String) (idx : Nat) (Y : jm_Y) (n : Nat) : Prop := Cond.methodLink own idx Y.1 ∈ jm_tb ∧ Cond.initialized Y.1.cls ∈ jm_tb ∧ Cond.code Y.1 Y.2.1 Y.2.2.1 Y.2.2.2.1 ∈ jm_tb ∧ plainName Y.1.cls = true ∧ (Y.1.cls ≠ "java/lang/invoke/MethodHandle" ∧ Y.1.cls ≠ "java/lang/invoke/VarHandle") ∧ (parseMethodDescriptor Y.1.desc).map (fun d => d.parameters.length) = some n
def jm_LV (own : String) (idx : Nat) (Y : jm_Y) (n ci : Nat) : Prop := jm_LB own idx Y n ∧ Cond.instanceMethod Y.1 ∈ jm_tb ∧ Cond.selects Y.1.cls Y.1 Y.1 ∈ jm_tb ∧ (classes[ci]?).map (fun q => q.1) = some Y.1.cls
def jm_LS (own : String) (idx : Nat) (Y : jm_Y) (n : Nat) : Prop := jm_LB own idx Y n ∧ Cond.static Y.1 ∈ jm_tb
theorem jm_blind {vs : List Value} {A : Nat → Prop} {D : va_G} {aC ad : Nat → Nat} {M : jm_M} : FrameBlind (va_Pc vs (jm_Pre A D aC ad M)) := by
  intro a U g mk q
  obtain ⟨q0, qP, qK, qZ, qT⟩ := q
  exact ⟨q0, qP, va_K.moved (u := U) (U := U.calling g mk a) (Vm.Alike.refl U.vm) qK, va_Z.moved (u := U) (U := U.calling g mk a) (Vm.Alike.refl U.vm) qZ, va_T.moved (u := U) (U := U.calling g mk a) (Vm.Alike.refl U.vm) qT⟩
theorem jm_callB {Yc : jm_Y} {R : Room} {s : State} {args : Array Value} {own : String} {idx n : Nat} (hts : ∀ w ∈ jm_tb, w.before args s = true) (L : jm_LB own idx Yc n) (hR : Yc.2.2.2.2.1 + 1 ≤ R.frames ∧ 8 + (Yc.2.2.1 + 11) + Yc.2.2.2.2.2 ≤ R.locals) : CallB R s args own idx Yc.1 Yc.2.1 Yc.2.2.1 Yc.2.2.2.1 (jm_wds Yc) (jm_rm Yc) 0 0 n := by
  obtain ⟨l1, l2, l3, l4, l5, l6⟩ := L
  refine ⟨rfl, rfl, hR.1, hR.2, pay_in hts (fun w hw => ?_), List.mem_cons_self, hts _ l3, hts _ l2, l5, fun sig h => ?_, hts _ l1⟩
  · have hm : w ∈ jm_tb := (List.mem_cons.mp hw).elim (fun e => e ▸ l3) (fun h => h)
    exact ⟨hm, jm_tb_good hm⟩
  · rw [h] at l6
    exact (Option.some.inj l6).symm
theorem jm_cat_map (ad : Nat → Nat) (st : List Value) : ((st.map (jm_v ad)).map fun v => v.category) = st.map fun v => v.category := by
  rw [List.map_map]
  exact congrArg (fun f => st.map f) (funext (fun v => jm_v_cat ad v))
theorem jm_pre {A : Nat → Prop} {D : va_G} {aC ad : Nat → Nat} {M : jm_M} {s : State} {H : Heap} {locs : List Loc} (hK : va_K D classes (jm_tys aC) s) (hZ : va_Z "WeirWords$Kinds" "ABOVE" "[I" (.ref (ad 1001)) A s s.heap) (hT : va_T .int (ad 1001) 6 jm_ab A s s.heap) (hP : va_P D classes (jm_ws aC ad M) H) (hS : va_S A s.heap H locs) (U : State) (hU : U.heap = H) (hW : s.WarmedH U.vm) : jm_Pre A D aC ad M U :=
  ⟨by rw [hU]; exact hP, va_K.moved hW.alike hK, by rw [hU]; exact va_Z.moved hW.alike (hZ.kept hS.2.1), by rw [hU]; exact va_T.moved hW.alike (hT.kept hS.2.1)⟩
theorem jm_cVi {sc : jm_S} {Y Yc : jm_Y} {pc idx n ci nf b : Nat} {ls : jm_Ls} {st As rest : List Value} {M : jm_M} {Q Qc : Option Value → jm_M → Prop} (d : decode Y.2.1 pc = .ok (.invokevirtual idx, 3)) (L : jm_LV Y.1.cls idx Yc n ci) (hty : ∃ ty, Yc.2.2.2.1 = some ty) (hob : jm_ob b = some (ci, nf)) (hst : st = As.reverse ++ .ref b :: rest) (hn : As.length = n) (hcat : ∀ v ∈ As, v.category = 1) (hen : As.length + 1 ≤ Yc.2.2.1) (hw : (rest.map fun v => v.category).sum ≤ 8) (hR : Yc.2.2.2.2.1 + 1 ≤ Y.2.2.2.2.1 ∧ 8 + (Yc.2.2.1 + 11) + Yc.2.2.2.2.2 ≤ Y.2.2.2.2.2) (hc : jm_J none Yc 0 (jm_en Yc.2.2.1 (.ref b :: As)) [] M Qc) (kk : ∀ (r : Int32) (M1 : jm_M), Qc (some (.int r)) M1 → jm_J sc Y (pc + 3) ls (.int r :: rest) M1 Q) : jm_J sc Y pc ls st M Q := by
  intro p l e R s m args below meth c cells slots Z A D aC ad C hI hV H locs lsA hP hS hL hz
  obtain ⟨hx, hb, hml, hown, hts, hK, hij, hA, hZ, hT, hRm, hC, hsc⟩ := id C
  subst hst
  obtain ⟨L1, L2, L3, L4⟩ := L
  have hM := (jm_met l A D aC ad hij hA L1.2.2.2.1 (vs := .ref b :: As) (by simpa [Nat.add_comm] using hen) (fun v hv => (List.mem_cons.mp hv).elim (fun e => by rw [e]; rfl) (hcat v)) hc).1 hty
  obtain ⟨qc, hqc, hqn⟩ : ∃ qc, classes[ci]? = some qc ∧ qc.1 = Yc.1.cls := by
    cases hx : classes[ci]? with
    | none => rw [hx] at L4; cases L4
    | some qc => rw [hx] at L4; exact ⟨qc, rfl, Option.some.inj L4⟩
  have hrecv := va_recv (a := ad b) (q0 := b) (fs := jm_fs ad M b nf) hK hP hqc (by rw [jm_at (jm_ob_lt hob), jm_e_ob hob])
  rw [hqn] at hrecv
  refine va_calli (A0 := A) (A1 := A) (va_runV (As := As.map (jm_v ad)) (rest := rest.map (jm_v ad)) (nL := Y.2.2.1) (n := n) (b := ad b) ⟨hx, hb, hml, hown, hts⟩ hM ⟨jm_callB hts L1 ⟨Nat.le_trans hR.1 hRm.1, Nat.le_trans hR.2 hRm.2⟩, hts _ L2, hts _ L3⟩ ⟨jm_blind, hrecv, fun U hU hW => ⟨rfl, jm_pre hK hZ hT hP hS U hU hW⟩⟩ rfl (by rw [List.length_map]; exact hn) hz (by show List.map _ _ = _; rw [List.map_append, List.map_reverse]; rfl) (lv_room (by rw [jm_cat_map]; exact hw)) d ⟨hC.1, hC.2⟩) hS (fun q _ h => h) (fun q h => h) (fun r M1 t H1 locs1 ht hvm hw1 hB hz1 hk1 hS1 => ?_)
  rw [ht] at hB
  exact kk r M1 hw1 p l e R s m args below meth c cells slots Z A D aC ad C hI hV H1 locs1 lsA hB hS1 hL hz
theorem jm_cSi {sc : jm_S} {Y Yc : jm_Y} {pc idx n ci nf b : Nat} {ls : jm_Ls} {st As rest : List Value} {M : jm_M} {Q Qc : Option Value → jm_M → Prop} (d : decode Y.2.1 pc = .ok (.invokestatic idx, 3)) (L : jm_LS Y.1.cls idx Yc n) (hty : ∃ ty, Yc.2.2.2.1 = some ty) (hst : st = As.reverse ++ rest) (hn : As.length = n) (hcat : ∀ v ∈ As, v.category = 1) (hen : As.length + 0 ≤ Yc.2.2.1) (hw : (rest.map fun v => v.category).sum ≤ 8) (hR : Yc.2.2.2.2.1 + 1 ≤ Y.2.2.2.2.1 ∧ 8 + (Yc.2.2.1 + 11) + Yc.2.2.2.2.2 ≤ Y.2.2.2.2.2) (hc : jm_J none Yc 0 (jm_en Yc.2.2.1 As) [] M Qc) (kk : ∀ (r : Int32) (M1 : jm_M), Qc (some (.int r)) M1 → jm_J sc Y (pc + 3) ls (.int r :: rest) M1 Q) : jm_J sc Y pc ls st M Q := by
  intro p l e R s m args below meth c cells slots Z A D aC ad C hI hV H locs lsA hP hS hL hz
  obtain ⟨hx, hb, hml, hown, hts, hK, hij, hA, hZ, hT, hRm, hC, hsc⟩ := id C
  subst hst
  obtain ⟨L1, L2⟩ := L
  have hM := (jm_met l A D aC ad hij hA L1.2.2.2.1 (vs := As) hen hcat hc).1 hty
  refine va_calli (A0 := A) (A1 := A) (va_runS (As := As.map (jm_v ad)) (rest := rest.map (jm_v ad)) (nL := Y.2.2.1) (n := n) ⟨hx, hb, hml, hown, hts⟩ hM ⟨jm_callB hts L1 ⟨Nat.le_trans hR.1 hRm.1, Nat.le_trans hR.2 hRm.2⟩, hts _ L2⟩ ⟨jm_blind, fun U hU hW => ⟨rfl, jm_pre hK hZ hT hP hS U hU hW⟩⟩ rfl (by rw [List.length_map]; exact hn) hz (by show List.map _ _ = _; rw [List.map_append, List.map_reverse]) (lv_room (by rw [jm_cat_map]; exact hw)) d ⟨hC.1, hC.2⟩) hS (fun q _ h => h) (fun q h => h) (fun r M1 t H1 locs1 ht hvm hw1 hB hz1 hk1 hS1 => ?_)
  rw [ht] at hB
  exact kk r M1 hw1 p l e R s m args below meth c cells slots Z A D aC ad C hI hV H1 locs1 lsA hB hS1 hL hz
theorem jm_cVv {sc : jm_S} {Y Yc : jm_Y} {pc idx n ci nf b : Nat} {ls : jm_Ls} {st As rest : List Value} {M : jm_M} {Q Qc : Option Value → jm_M → Prop} (d : decode Y.2.1 pc = .ok (.invokevirtual idx, 3)) (L : jm_LV Y.1.cls idx Yc n ci) (hty : Yc.2.2.2.1 = none) (hob : jm_ob b = some (ci, nf)) (hst : st = As.reverse ++ .ref b :: rest) (hn : As.length = n) (hcat : ∀ v ∈ As, v.category = 1) (hen : As.length + 1 ≤ Yc.2.2.1) (hw : (rest.map fun v => v.category).sum ≤ 8) (hR : Yc.2.2.2.2.1 + 1 ≤ Y.2.2.2.2.1 ∧ 8 + (Yc.2.2.1 + 11) + Yc.2.2.2.2.2 ≤ Y.2.2.2.2.2) (hc : jm_J none Yc 0 (jm_en Yc.2.2.1 (.ref b :: As)) [] M Qc) (kk : ∀ (M1 : jm_M), Qc none M1 → jm_J sc Y (pc + 3) ls rest M1 Q) : jm_J sc Y pc ls st M Q := by
  intro p l e R s m args below meth c cells slots Z A D aC ad C hI hV H locs lsA hP hS hL hz
  obtain ⟨hx, hb, hml, hown, hts, hK, hij, hA, hZ, hT, hRm, hC, hsc⟩ := id C
  subst hst
  obtain ⟨L1, L2, L3, L4⟩ := L
  have hM := (jm_met l A D aC ad hij hA L1.2.2.2.1 (vs := .ref b :: As) (by simpa [Nat.add_comm] using hen) (fun v hv => (List.mem_cons.mp hv).elim (fun e => by rw [e]; rfl) (hcat v)) hc).2 hty
  obtain ⟨qc, hqc, hqn⟩ : ∃ qc, classes[ci]? = some qc ∧ qc.1 = Yc.1.cls := by
    cases hx : classes[ci]? with
    | none => rw [hx] at L4; cases L4
    | some qc => rw [hx] at L4; exact ⟨qc, rfl, Option.some.inj L4⟩
  have hrecv := va_recv (a := ad b) (q0 := b) (fs := jm_fs ad M b nf) hK hP hqc (by rw [jm_at (jm_ob_lt hob), jm_e_ob hob])
  rw [hqn] at hrecv
  refine va_callv (A0 := A) (A1 := A) (va_runV (As := As.map (jm_v ad)) (rest := rest.map (jm_v ad)) (nL := Y.2.2.1) (n := n) (b := ad b) ⟨hx, hb, hml, hown, hts⟩ hM ⟨jm_callB hts L1 ⟨Nat.le_trans hR.1 hRm.1, Nat.le_trans hR.2 hRm.2⟩, hts _ L2, hts _ L3⟩ ⟨jm_blind, hrecv, fun U hU hW => ⟨rfl, jm_pre hK hZ hT hP hS U hU hW⟩⟩ rfl (by rw [List.length_map]; exact hn) hz (by show List.map _ _ = _; rw [List.map_append, List.map_reverse]; rfl) (lv_room (by rw [jm_cat_map]; exact hw)) d ⟨hC.1, hC.2⟩) hS (fun q _ h => h) (fun q h => h) (fun M1 t H1 locs1 ht hvm hw1 hB hz1 hk1 hS1 => ?_)
  rw [ht] at hB
  exact kk M1 hw1 p l e R s m args below meth c cells slots Z A D aC ad C hI hV H1 locs1 lsA hB hS1 hL hz
theorem jm_cSv {sc : jm_S} {Y Yc : jm_Y} {pc idx n ci nf b : Nat} {ls : jm_Ls} {st As rest : List Value} {M : jm_M} {Q Qc : Option Value → jm_M → Prop} (d : decode Y.2.1 pc = .ok (.invokestatic idx, 3)) (L : jm_LS Y.1.cls idx Yc n) (hty : Yc.2.2.2.1 = none) (hst : st = As.reverse ++ rest) (hn : As.length = n) (hcat : ∀ v ∈ As, v.category = 1) (hen : As.length + 0 ≤ Yc.2.2.1) (hw : (rest.map fun v => v.category).sum ≤ 8) (hR : Yc.2.2.2.2.1 + 1 ≤ Y.2.2.2.2.1 ∧ 8 + (Yc.2.2.1 + 11) + Yc.2.2.2.2.2 ≤ Y.2.2.2.2.2) (hc : jm_J none Yc 0 (jm_en Yc.2.2.1 As) [] M Qc) (kk : ∀ (M1 : jm_M), Qc none M1 → jm_J sc Y (pc + 3) ls rest M1 Q) : jm_J sc Y pc ls st M Q := by
  intro p l e R s m args below meth c cells slots Z A D aC ad C hI hV H locs lsA hP hS hL hz
  obtain ⟨hx, hb, hml, hown, hts, hK, hij, hA, hZ, hT, hRm, hC, hsc⟩ := id C
  subst hst
  obtain ⟨L1, L2⟩ := L
  have hM := (jm_met l A D aC ad hij hA L1.2.2.2.1 (vs := As) hen hcat hc).2 hty
  refine va_callv (A0 := A) (A1 := A) (va_runS (As := As.map (jm_v ad)) (rest := rest.map (jm_v ad)) (nL := Y.2.2.1) (n := n) ⟨hx, hb, hml, hown, hts⟩ hM ⟨jm_callB hts L1 ⟨Nat.le_trans hR.1 hRm.1, Nat.le_trans hR.2 hRm.2⟩, hts _ L2⟩ ⟨jm_blind, fun U hU hW => ⟨rfl, jm_pre hK hZ hT hP hS U hU hW⟩⟩ rfl (by rw [List.length_map]; exact hn) hz (by show List.map _ _ = _; rw [List.map_append, List.map_reverse]) (lv_room (by rw [jm_cat_map]; exact hw)) d ⟨hC.1, hC.2⟩) hS (fun q _ h => h) (fun q h => h) (fun M1 t H1 locs1 ht hvm hw1 hB hz1 hk1 hS1 => ?_)
  rw [ht] at hB
  exact kk M1 hw1 p l e R s m args below meth c cells slots Z A D aC ad C hI hV H1 locs1 lsA hB hS1 hL hz
end
section
/-! the methods, the links: by program out of the tables -/
abbrev YX0_init : jm_Y := (yX0_init, cX0_init, 1, none, 1, 20)
abbrev YX0_begin : jm_Y := (yX0_begin, cX0_begin, 3, none, 1, 20)
abbrev YX0_hasLeft : jm_Y := (yX0_hasLeft, cX0_hasLeft, 2, (some .boolean), 0, 0)
abbrev YX0_askSize : jm_Y := (yX0_askSize, cX0_askSize, 1, (some .int), 5, 102)
abbrev YX0_askMark : jm_Y := (yX0_askMark, cX0_askMark, 1, (some .int), 5, 102)
abbrev YX0_anyStickMark : jm_Y := (yX0_anyStickMark, cX0_anyStickMark, 1, (some .int), 3, 61)
abbrev YX0_salmonOrEelSize : jm_Y := (yX0_salmonOrEelSize, cX0_salmonOrEelSize, 1, (some .int), 3, 61)
abbrev YX0_stickSize : jm_Y := (yX0_stickSize, cX0_stickSize, 2, (some .int), 4, 81)
abbrev YX0_salmonSize : jm_Y := (yX0_salmonSize, cX0_salmonSize, 1, (some .int), 2, 41)
abbrev YX0_lentSize : jm_Y := (yX0_lentSize, cX0_lentSize, 1, (some .int), 1, 21)
abbrev YX0_stickMark : jm_Y := (yX0_stickMark, cX0_stickMark, 1, (some .int), 2, 41)
abbrev YX0_salmonMark : jm_Y := (yX0_salmonMark, cX0_salmonMark, 2, (some .int), 4, 81)
abbrev YX0_lentMark : jm_Y := (yX0_lentMark, cX0_lentMark, 1, (some .int), 1, 21)
abbrev YX0_leave : jm_Y := (yX0_leave, cX0_leave, 2, none, 0, 0)
abbrev YX1_isOne : jm_Y := (yX1_isOne, cX1_isOne, 2, (some .boolean), 0, 0)
abbrev YX1_byLetter : jm_Y := (yX1_byLetter, cX1_byLetter, 1, (some .int), 0, 0)
abbrev YX2_init : jm_Y := (yX2_init, cX2_init, 1, none, 1, 20)
abbrev YX2_packed : jm_Y := (yX2_packed, cX2_packed, 2, (some .int), 0, 0)
abbrev YX2_sizeIn : jm_Y := (yX2_sizeIn, cX2_sizeIn, 1, (some .int), 0, 0)
abbrev YX2_cellIn : jm_Y := (yX2_cellIn, cX2_cellIn, 1, (some .int), 0, 0)
abbrev YX2_isGone : jm_Y := (yX2_isGone, cX2_isGone, 1, (some .boolean), 1, 20)
abbrev YX2_empty : jm_Y := (yX2_empty, cX2_empty, 1, none, 0, 0)
abbrev YX2_become : jm_Y := (yX2_become, cX2_become, 2, none, 1, 34)
abbrev YX2_takeSpeeds : jm_Y := (yX2_takeSpeeds, cX2_takeSpeeds, 5, none, 0, 0)
abbrev YX2_hasCell : jm_Y := (yX2_hasCell, cX2_hasCell, 2, (some .boolean), 0, 0)
abbrev YX2_hasWord : jm_Y := (yX2_hasWord, cX2_hasWord, 2, (some .boolean), 0, 0)
abbrev YX2_sizeOf : jm_Y := (yX2_sizeOf, cX2_sizeOf, 2, (some .int), 1, 20)
abbrev YX2_goneBits : jm_Y := (yX2_goneBits, cX2_goneBits, 3, (some .int), 2, 40)
abbrev YX2_wordsIn : jm_Y := (yX2_wordsIn, cX2_wordsIn, 4, (some .int), 2, 40)
abbrev YX2_hasClimber : jm_Y := (yX2_hasClimber, cX2_hasClimber, 2, (some .boolean), 2, 40)
abbrev YX2_isWet : jm_Y := (yX2_isWet, cX2_isWet, 2, (some .boolean), 0, 0)
abbrev YX2_paceOf : jm_Y := (yX2_paceOf, cX2_paceOf, 3, (some .int), 0, 0)
abbrev YX2_passMinute : jm_Y := (yX2_passMinute, cX2_passMinute, 3, none, 3, 74)
abbrev YX2_moved : jm_Y := (yX2_moved, cX2_moved, 6, (some .int), 2, 49)
abbrev YX2_drifted : jm_Y := (yX2_drifted, cX2_drifted, 8, (some .int), 1, 22)
abbrev YX2_climbed : jm_Y := (yX2_climbed, cX2_climbed, 8, (some .int), 1, 22)
abbrev YX2_foretold : jm_Y := (yX2_foretold, cX2_foretold, 5, (some .int), 3, 74)
abbrev YX2_foretoldIn : jm_Y := (yX2_foretoldIn, cX2_foretoldIn, 6, (some .int), 3, 74)
abbrev YX2_goneBehind : jm_Y := (yX2_goneBehind, cX2_goneBehind, 5, (some .int), 3, 74)
abbrev YX2_quarrelBehind : jm_Y := (yX2_quarrelBehind, cX2_quarrelBehind, 4, (some .int), 4, 98)
abbrev YX2_isAllGoneBehind : jm_Y := (yX2_isAllGoneBehind, cX2_isAllGoneBehind, 3, (some .boolean), 4, 98)
abbrev YX2_goesAsTold : jm_Y := (yX2_goesAsTold, cX2_goesAsTold, 8, (some .boolean), 3, 74)
abbrev YX2_sayDrawn : jm_Y := (yX2_sayDrawn, cX2_sayDrawn, 3, (some .boolean), 2, 40)
abbrev YX3_init : jm_Y := (yX3_init, cX3_init, 1, none, 1, 23)
abbrev YX3_isRow : jm_Y := (yX3_isRow, cX3_isRow, 1, (some .boolean), 0, 0)
abbrev YX3_isLane : jm_Y := (yX3_isLane, cX3_isLane, 1, (some .boolean), 0, 0)
abbrev YX3_isMissing : jm_Y := (yX3_isMissing, cX3_isMissing, 2, (some .boolean), 0, 0)
abbrev YX3_haveOneLane : jm_Y := (yX3_haveOneLane, cX3_haveOneLane, 3, (some .boolean), 0, 0)
abbrev YX3_hasPlaces : jm_Y := (yX3_hasPlaces, cX3_hasPlaces, 4, (some .boolean), 0, 0)
abbrev YX3_lay : jm_Y := (yX3_lay, cX3_lay, 4, none, 1, 23)
abbrev YX3_put : jm_Y := (yX3_put, cX3_put, 5, (some .int), 0, 0)
abbrev YX3_carry : jm_Y := (yX3_carry, cX3_carry, 6, none, 1, 34)
abbrev YX3_lose : jm_Y := (yX3_lose, cX3_lose, 3, (some .int), 0, 0)
abbrev YX3_present : jm_Y := (yX3_present, cX3_present, 3, (some .int), 1, 21)
abbrev YX4_init : jm_Y := (yX4_init, cX4_init, 1, none, 1, 20)
abbrev YX4_isFull : jm_Y := (yX4_isFull, cX4_isFull, 1, (some .boolean), 0, 0)
abbrev YX4_take : jm_Y := (yX4_take, cX4_take, 2, (some .int), 0, 0)
abbrev YX4_wipe : jm_Y := (yX4_wipe, cX4_wipe, 1, none, 0, 0)
abbrev YX4_readInto : jm_Y := (yX4_readInto, cX4_readInto, 2, (some .boolean), 4, 93)
abbrev YX4_readLaw : jm_Y := (yX4_readLaw, cX4_readLaw, 2, (some .boolean), 2, 47)
abbrev YX4_readCells : jm_Y := (yX4_readCells, cX4_readCells, 3, (some .boolean), 3, 69)
abbrev YX4_readCell : jm_Y := (yX4_readCell, cX4_readCell, 3, (some .boolean), 2, 47)
abbrev YX4_readWords : jm_Y := (yX4_readWords, cX4_readWords, 3, (some .boolean), 3, 71)
abbrev YX4_readWord : jm_Y := (yX4_readWord, cX4_readWord, 5, (some .boolean), 2, 47)
abbrev YX4_isAt : jm_Y := (yX4_isAt, cX4_isAt, 2, (some .boolean), 0, 0)
abbrev YX4_passes : jm_Y := (yX4_passes, cX4_passes, 2, (some .boolean), 1, 21)
abbrev YX4_faulty : jm_Y := (yX4_faulty, cX4_faulty, 2, (some .boolean), 0, 0)
abbrev YX4_readNumber : jm_Y := (yX4_readNumber, cX4_readNumber, 6, (some .int), 1, 22)
abbrev YX4_figuresFrom : jm_Y := (yX4_figuresFrom, cX4_figuresFrom, 3, (some .int), 0, 0)
abbrev YX5_init : jm_Y := (yX5_init, cX5_init, 2, none, 2, 43)
abbrev YX5_row : jm_Y := (yX5_row, cX5_row, 4, (some .int), 2, 46)
abbrev YX5_set : jm_Y := (yX5_set, cX5_set, 4, (some .int), 1, 24)
abbrev YX5_copy : jm_Y := (yX5_copy, cX5_copy, 6, (some .int), 2, 59)
abbrev YX5_drop : jm_Y := (yX5_drop, cX5_drop, 2, (some .int), 1, 22)
abbrev YX5_feed : jm_Y := (yX5_feed, cX5_feed, 2, (some .int), 1, 22)
abbrev YX5_river : jm_Y := (yX5_river, cX5_river, 2, (some .int), 5, 114)
abbrev YX5_fault : jm_Y := (yX5_fault, cX5_fault, 1, (some .int), 0, 0)
abbrev YX5_minutes : jm_Y := (yX5_minutes, cX5_minutes, 3, (some .int), 4, 96)
abbrev YX5_say : jm_Y := (yX5_say, cX5_say, 5, (some .int), 3, 75)
abbrev YX5_speed : jm_Y := (yX5_speed, cX5_speed, 4, (some .int), 3, 75)
abbrev YX5_rain : jm_Y := (yX5_rain, cX5_rain, 3, (some .int), 3, 75)
abbrev YX5_undo : jm_Y := (yX5_undo, cX5_undo, 1, (some .int), 2, 55)
abbrev YX5_word : jm_Y := (yX5_word, cX5_word, 4, (some .int), 3, 60)
abbrev YX5_cell : jm_Y := (yX5_cell, cX5_cell, 3, (some .int), 3, 63)
abbrev YX5_ahead : jm_Y := (yX5_ahead, cX5_ahead, 5, (some .int), 4, 98)
abbrev YX5_quarrel : jm_Y := (yX5_quarrel, cX5_quarrel, 2, (some .int), 5, 121)
abbrev YX5_over : jm_Y := (yX5_over, cX5_over, 2, (some .int), 4, 98)
abbrev YX5_kept : jm_Y := (yX5_kept, cX5_kept, 3, (some .int), 4, 98)
abbrev YX5_calm : jm_Y := (yX5_calm, cX5_calm, 7, (some .int), 5, 121)
abbrev YX5_swift : jm_Y := (yX5_swift, cX5_swift, 4, (some .int), 6, 143)
abbrev YX5_stir : jm_Y := (yX5_stir, cX5_stir, 5, (some .int), 4, 98)
abbrev YX5_share : jm_Y := (yX5_share, cX5_share, 7, (some .int), 5, 121)
abbrev YX5_fits : jm_Y := (yX5_fits, cX5_fits, 7, (some .int), 6, 153)
abbrev YX5_chance : jm_Y := (yX5_chance, cX5_chance, 8, (some .int), 4, 99)
abbrev YX5_drawn : jm_Y := (yX5_drawn, cX5_drawn, 8, (some .int), 5, 121)
abbrev YX5_image : jm_Y := (yX5_image, cX5_image, 2, (some .int), 2, 55)
abbrev YX5_restore : jm_Y := (yX5_restore, cX5_restore, 2, (some .int), 2, 55)
abbrev YX5_kind : jm_Y := (yX5_kind, cX5_kind, 2, (some .int), 1, 21)
abbrev YX5_as : jm_Y := (yX5_as, cX5_as, 3, (some .int), 1, 22)
abbrev YX5_ask : jm_Y := (yX5_ask, cX5_ask, 3, (some .int), 6, 122)
abbrev YX5_trace : jm_Y := (yX5_trace, cX5_trace, 2, (some .int), 1, 21)
abbrev YX5_count : jm_Y := (yX5_count, cX5_count, 2, (some .int), 5, 121)
abbrev YX5_status : jm_Y := (yX5_status, cX5_status, 1, (some .int), 0, 0)
abbrev YX5_isWithin : jm_Y := (yX5_isWithin, cX5_isWithin, 3, (some .boolean), 0, 0)
abbrev YX5_finding : jm_Y := (yX5_finding, cX5_finding, 2, (some .int), 0, 0)
abbrev YX5_unfound : jm_Y := (yX5_unfound, cX5_unfound, 2, (some .int), 0, 0)
abbrev YX5_hasRiver : jm_Y := (yX5_hasRiver, cX5_hasRiver, 1, (some .boolean), 0, 0)
abbrev YX5_cellOrNone : jm_Y := (yX5_cellOrNone, cX5_cellOrNone, 1, (some .int), 2, 40)
abbrev YX5_keepAct : jm_Y := (yX5_keepAct, cX5_keepAct, 1, none, 2, 55)
abbrev YX5_forgetActs : jm_Y := (yX5_forgetActs, cX5_forgetActs, 1, none, 0, 0)
abbrev YX5_fewestSwift : jm_Y := (yX5_fewestSwift, cX5_fewestSwift, 4, (some .int), 5, 120)
abbrev YX5_fittingSorts : jm_Y := (yX5_fittingSorts, cX5_fittingSorts, 7, (some .int), 4, 101)
abbrev YX5_fittingStarts : jm_Y := (yX5_fittingStarts, cX5_fittingStarts, 8, (some .int), 4, 101)
abbrev YX5_fittingRains : jm_Y := (yX5_fittingRains, cX5_fittingRains, 7, (some .int), 4, 101)
abbrev YX5_fittingSizes : jm_Y := (yX5_fittingSizes, cX5_fittingSizes, 7, (some .int), 5, 127)
abbrev YX5_leastFittingSize : jm_Y := (yX5_leastFittingSize, cX5_leastFittingSize, 6, (some .int), 5, 127)
abbrev YX5_fitsSize : jm_Y := (yX5_fitsSize, cX5_fitsSize, 7, (some .boolean), 4, 101)
abbrev YX5_power : jm_Y := (yX5_power, cX5_power, 4, (some .int), 0, 0)
abbrev YX5_commonDivisor : jm_Y := (yX5_commonDivisor, cX5_commonDivisor, 6, (some .int), 0, 0)
abbrev YX6_init : jm_Y := (yX6_init, cX6_init, 2, none, 1, 20)
abbrev YX6_in : jm_Y := (yX6_in, cX6_in, 3, (some .boolean), 0, 0)
abbrev YX6_has : jm_Y := (yX6_has, cX6_has, 2, (some .boolean), 0, 0)
abbrev YX6_ones : jm_Y := (yX6_ones, cX6_ones, 3, (some .int), 0, 0)
abbrev YX6_found : jm_Y := (yX6_found, cX6_found, 2, (some .int), 0, 0)
abbrev YX6_well : jm_Y := (yX6_well, cX6_well, 2, (some .int), 0, 0)
abbrev YX6_copies : jm_Y := (yX6_copies, cX6_copies, 5, none, 0, 0)
abbrev YX6_isRow : jm_Y := (yX6_isRow, cX6_isRow, 1, (some .boolean), 1, 22)
abbrev YX6_isMissing : jm_Y := (yX6_isMissing, cX6_isMissing, 2, (some .boolean), 0, 0)
abbrev YX6_cut : jm_Y := (yX6_cut, cX6_cut, 2, (some .int), 0, 0)
abbrev YX6_row : jm_Y := (yX6_row, cX6_row, 5, (some .int), 2, 42)
abbrev YX6_set : jm_Y := (yX6_set, cX6_set, 4, (some .int), 2, 42)
abbrev YX6_isPart : jm_Y := (yX6_isPart, cX6_isPart, 4, (some .boolean), 0, 0)
abbrev YX6_copy : jm_Y := (yX6_copy, cX6_copy, 7, (some .int), 2, 42)
abbrev YX6_drop : jm_Y := (yX6_drop, cX6_drop, 2, (some .int), 2, 42)
abbrev YX6_feed : jm_Y := (yX6_feed, cX6_feed, 2, (some .int), 1, 22)
abbrev YX6_byteAt : jm_Y := (yX6_byteAt, cX6_byteAt, 2, (some .int), 0, 0)
abbrev YX6_advances : jm_Y := (yX6_advances, cX6_advances, 2, none, 1, 22)
abbrev YX6_isWell : jm_Y := (yX6_isWell, cX6_isWell, 1, (some .boolean), 0, 0)
abbrev YX6_takes : jm_Y := (yX6_takes, cX6_takes, 4, (some .int), 2, 43)
abbrev YX6_figure : jm_Y := (yX6_figure, cX6_figure, 3, (some .int), 3, 66)
abbrev YX6_kindOf : jm_Y := (yX6_kindOf, cX6_kindOf, 1, (some .int), 0, 0)
abbrev YX6_follows : jm_Y := (yX6_follows, cX6_follows, 3, (some .int), 4, 88)
abbrev YX6_readsCell : jm_Y := (yX6_readsCell, cX6_readsCell, 3, none, 4, 88)
abbrev YX6_readsWord : jm_Y := (yX6_readsWord, cX6_readsWord, 5, none, 5, 110)
abbrev YX6_must : jm_Y := (yX6_must, cX6_must, 2, none, 3, 66)
abbrev YX6_river : jm_Y := (yX6_river, cX6_river, 2, (some .int), 6, 134)
abbrev YX6_fault : jm_Y := (yX6_fault, cX6_fault, 1, (some .int), 0, 0)
abbrev YX6_isRiver : jm_Y := (yX6_isRiver, cX6_isRiver, 1, (some .boolean), 0, 0)
abbrev YX6_isWord : jm_Y := (yX6_isWord, cX6_isWord, 2, (some .boolean), 1, 22)
abbrev YX6_isCell : jm_Y := (yX6_isCell, cX6_isCell, 2, (some .boolean), 1, 22)
abbrev YX6_isGone : jm_Y := (yX6_isGone, cX6_isGone, 2, (some .boolean), 0, 0)
abbrev YX6_pace : jm_Y := (yX6_pace, cX6_pace, 2, (some .int), 1, 21)
abbrev YX6_upFrom : jm_Y := (yX6_upFrom, cX6_upFrom, 4, (some .int), 2, 42)
abbrev YX6_goesTo : jm_Y := (yX6_goesTo, cX6_goesTo, 6, (some .int), 3, 65)
abbrev YX6_goes : jm_Y := (yX6_goes, cX6_goes, 6, none, 4, 90)
abbrev YX6_passes : jm_Y := (yX6_passes, cX6_passes, 2, none, 5, 115)
abbrev YX6_goneOf : jm_Y := (yX6_goneOf, cX6_goneOf, 3, (some .int), 0, 0)
abbrev YX6_sizes : jm_Y := (yX6_sizes, cX6_sizes, 3, (some .int), 0, 0)
abbrev YX6_all : jm_Y := (yX6_all, cX6_all, 1, (some .int), 0, 0)
abbrev YX6_whereIs : jm_Y := (yX6_whereIs, cX6_whereIs, 2, (some .int), 0, 0)
abbrev YX6_says : jm_Y := (yX6_says, cX6_says, 4, none, 0, 0)
abbrev YX6_notes : jm_Y := (yX6_notes, cX6_notes, 2, none, 1, 24)
abbrev YX6_minutes : jm_Y := (yX6_minutes, cX6_minutes, 3, (some .int), 6, 136)
abbrev YX6_say : jm_Y := (yX6_say, cX6_say, 5, (some .int), 2, 45)
abbrev YX6_speed : jm_Y := (yX6_speed, cX6_speed, 4, (some .int), 2, 45)
abbrev YX6_rain : jm_Y := (yX6_rain, cX6_rain, 3, (some .int), 2, 45)
abbrev YX6_undo : jm_Y := (yX6_undo, cX6_undo, 1, (some .int), 1, 24)
abbrev YX6_word : jm_Y := (yX6_word, cX6_word, 3, (some .int), 2, 43)
abbrev YX6_wordsIn : jm_Y := (yX6_wordsIn, cX6_wordsIn, 4, (some .int), 1, 21)
abbrev YX6_cell : jm_Y := (yX6_cell, cX6_cell, 3, (some .int), 2, 44)
abbrev YX6_goesOn : jm_Y := (yX6_goesOn, cX6_goesOn, 3, none, 6, 136)
abbrev YX6_ahead : jm_Y := (yX6_ahead, cX6_ahead, 4, (some .int), 7, 158)
abbrev YX6_quarrel : jm_Y := (yX6_quarrel, cX6_quarrel, 2, (some .int), 7, 158)
abbrev YX6_over : jm_Y := (yX6_over, cX6_over, 3, (some .int), 6, 136)
abbrev YX6_kept : jm_Y := (yX6_kept, cX6_kept, 1, (some .int), 7, 158)
abbrev YX6_isNear : jm_Y := (yX6_isNear, cX6_isNear, 1, (some .boolean), 1, 22)
abbrev YX6_calm : jm_Y := (yX6_calm, cX6_calm, 7, (some .int), 7, 158)
abbrev YX6_swift : jm_Y := (yX6_swift, cX6_swift, 7, (some .int), 7, 158)
abbrev YX6_stir : jm_Y := (yX6_stir, cX6_stir, 5, (some .int), 7, 158)
abbrev YX6_share : jm_Y := (yX6_share, cX6_share, 8, (some .int), 2, 43)
abbrev YX6_isSeen : jm_Y := (yX6_isSeen, cX6_isSeen, 9, (some .boolean), 6, 136)
abbrev YX6_fits : jm_Y := (yX6_fits, cX6_fits, 14, (some .int), 7, 164)
abbrev YX6_chance : jm_Y := (yX6_chance, cX6_chance, 10, (some .int), 6, 136)
abbrev YX6_drawn : jm_Y := (yX6_drawn, cX6_drawn, 9, (some .int), 6, 136)
abbrev YX6_image : jm_Y := (yX6_image, cX6_image, 2, (some .int), 1, 24)
abbrev YX6_restore : jm_Y := (yX6_restore, cX6_restore, 2, (some .int), 1, 24)
abbrev YX6_kindIn : jm_Y := (yX6_kindIn, cX6_kindIn, 2, (some .int), 0, 0)
abbrev YX6_kind : jm_Y := (yX6_kind, cX6_kind, 2, (some .int), 2, 43)
abbrev YX6_as : jm_Y := (yX6_as, cX6_as, 5, (some .int), 2, 43)
abbrev YX6_begins : jm_Y := (yX6_begins, cX6_begins, 2, none, 0, 0)
abbrev YX6_stickMark : jm_Y := (yX6_stickMark, cX6_stickMark, 4, (some .int), 1, 21)
abbrev YX6_salmonSize : jm_Y := (yX6_salmonSize, cX6_salmonSize, 4, (some .int), 1, 21)
abbrev YX6_stickSize : jm_Y := (yX6_stickSize, cX6_stickSize, 4, (some .int), 2, 44)
abbrev YX6_salmonMark : jm_Y := (yX6_salmonMark, cX6_salmonMark, 2, (some .int), 2, 44)
abbrev YX6_ask : jm_Y := (yX6_ask, cX6_ask, 4, (some .int), 3, 67)
abbrev YX6_trace : jm_Y := (yX6_trace, cX6_trace, 2, (some .int), 1, 22)
abbrev YX6_count : jm_Y := (yX6_count, cX6_count, 4, (some .int), 1, 22)
abbrev YX6_status : jm_Y := (yX6_status, cX6_status, 1, (some .int), 0, 0)
abbrev YJ6_bitCount_0f7a4 : jm_Y := (yJ6_bitCount_0f7a4, cJ6_bitCount_0f7a4, 1, (some .int), 0, 0)
abbrev YJ9_min_7cf53 : jm_Y := (yJ9_min_7cf53, cJ9_min_7cf53, 2, (some .int), 0, 0)
abbrev YJ7_fill_53178 : jm_Y := (yJ7_fill_53178, cJ7_fill_53178, 4, none, 0, 0)
abbrev YL_law : jm_Y := (yL_law, cL_law, 4, (some .boolean), 8, 197)
theorem ini_RX5 : Cond.initialized RX5 ∈ jm_tb := (jm_tb_in (List.mem_of_getElem? (i := 61) (by decide +kernel)) rfl)
theorem ini_RX0 : Cond.initialized RX0 ∈ jm_tb := (jm_tb_in (List.mem_of_getElem? (i := 65) (by decide +kernel)) rfl)
theorem ini_RX1 : Cond.initialized RX1 ∈ jm_tb := (jm_tb_in (List.mem_of_getElem? (i := 69) (by decide +kernel)) rfl)
theorem ini_RX2 : Cond.initialized RX2 ∈ jm_tb := (jm_tb_in (List.mem_of_getElem? (i := 66) (by decide +kernel)) rfl)
theorem ini_RX3 : Cond.initialized RX3 ∈ jm_tb := (jm_tb_in (List.mem_of_getElem? (i := 62) (by decide +kernel)) rfl)
theorem ini_RX4 : Cond.initialized RX4 ∈ jm_tb := (jm_tb_in (List.mem_of_getElem? (i := 64) (by decide +kernel)) rfl)
theorem ini_RL : Cond.initialized RL ∈ jm_tb := (jm_tb_in (List.mem_of_getElem? (i := 60) (by decide +kernel)) rfl)
theorem ini_RX6 : Cond.initialized RX6 ∈ jm_tb := (jm_tb_in (List.mem_of_getElem? (i := 67) (by decide +kernel)) rfl)
theorem ini_RJ6 : Cond.initialized RJ6 ∈ jm_tb := (jm_tb_in (List.mem_of_getElem? (i := 71) (by decide +kernel)) rfl)
theorem ini_RJ9 : Cond.initialized RJ9 ∈ jm_tb := (jm_tb_in (List.mem_of_getElem? (i := 70) (by decide +kernel)) rfl)
theorem ini_RJ7 : Cond.initialized RJ7 ∈ jm_tb := (jm_tb_in (List.mem_of_getElem? (i := 63) (by decide +kernel)) rfl)
theorem cd_X0_begin : Cond.code YX0_begin.1 YX0_begin.2.1 YX0_begin.2.2.1 YX0_begin.2.2.2.1 ∈ jm_tb := (jm_tb_in (List.mem_of_getElem? (i := 645) (by decide +kernel)) rfl)
theorem im_X0_begin : Cond.instanceMethod YX0_begin.1 ∈ jm_tb := (jm_tb_in (List.mem_of_getElem? (i := 643) (by decide +kernel)) rfl)
theorem se_X0_begin : Cond.selects YX0_begin.1.cls YX0_begin.1 YX0_begin.1 ∈ jm_tb := (jm_tb_in (List.mem_of_getElem? (i := 644) (by decide +kernel)) rfl)
theorem cd_X0_hasLeft : Cond.code YX0_hasLeft.1 YX0_hasLeft.2.1 YX0_hasLeft.2.2.1 YX0_hasLeft.2.2.2.1 ∈ jm_tb := (jm_tb_in (List.mem_of_getElem? (i := 699) (by decide +kernel)) rfl)
theorem im_X0_hasLeft : Cond.instanceMethod YX0_hasLeft.1 ∈ jm_tb := (jm_tb_in (List.mem_of_getElem? (i := 697) (by decide +kernel)) rfl)
theorem se_X0_hasLeft : Cond.selects YX0_hasLeft.1.cls YX0_hasLeft.1 YX0_hasLeft.1 ∈ jm_tb := (jm_tb_in (List.mem_of_getElem? (i := 698) (by decide +kernel)) rfl)
theorem cd_X0_askSize : Cond.code YX0_askSize.1 YX0_askSize.2.1 YX0_askSize.2.2.1 YX0_askSize.2.2.2.1 ∈ jm_tb := (jm_tb_in (List.mem_of_getElem? (i := 651) (by decide +kernel)) rfl)
theorem im_X0_askSize : Cond.instanceMethod YX0_askSize.1 ∈ jm_tb := (jm_tb_in (List.mem_of_getElem? (i := 649) (by decide +kernel)) rfl)
theorem se_X0_askSize : Cond.selects YX0_askSize.1.cls YX0_askSize.1 YX0_askSize.1 ∈ jm_tb := (jm_tb_in (List.mem_of_getElem? (i := 650) (by decide +kernel)) rfl)
theorem cd_X0_askMark : Cond.code YX0_askMark.1 YX0_askMark.2.1 YX0_askMark.2.2.1 YX0_askMark.2.2.2.1 ∈ jm_tb := (jm_tb_in (List.mem_of_getElem? (i := 687) (by decide +kernel)) rfl)
theorem im_X0_askMark : Cond.instanceMethod YX0_askMark.1 ∈ jm_tb := (jm_tb_in (List.mem_of_getElem? (i := 685) (by decide +kernel)) rfl)
theorem se_X0_askMark : Cond.selects YX0_askMark.1.cls YX0_askMark.1 YX0_askMark.1 ∈ jm_tb := (jm_tb_in (List.mem_of_getElem? (i := 686) (by decide +kernel)) rfl)
theorem cd_X0_anyStickMark : Cond.code YX0_anyStickMark.1 YX0_anyStickMark.2.1 YX0_anyStickMark.2.2.1 YX0_anyStickMark.2.2.2.1 ∈ jm_tb := (jm_tb_in (List.mem_of_getElem? (i := 667) (by decide +kernel)) rfl)
theorem im_X0_anyStickMark : Cond.instanceMethod YX0_anyStickMark.1 ∈ jm_tb := (jm_tb_in (List.mem_of_getElem? (i := 666) (by decide +kernel)) rfl)
theorem se_X0_anyStickMark : Cond.selects YX0_anyStickMark.1.cls YX0_anyStickMark.1 YX0_anyStickMark.1 ∈ jm_tb := (jm_tb_in (List.mem_of_getElem? (i := 27) (by decide +kernel)) rfl)
theorem cd_X0_salmonOrEelSize : Cond.code YX0_salmonOrEelSize.1 YX0_salmonOrEelSize.2.1 YX0_salmonOrEelSize.2.2.1 YX0_salmonOrEelSize.2.2.2.1 ∈ jm_tb := (jm_tb_in (List.mem_of_getElem? (i := 679) (by decide +kernel)) rfl)
theorem im_X0_salmonOrEelSize : Cond.instanceMethod YX0_salmonOrEelSize.1 ∈ jm_tb := (jm_tb_in (List.mem_of_getElem? (i := 678) (by decide +kernel)) rfl)
theorem se_X0_salmonOrEelSize : Cond.selects YX0_salmonOrEelSize.1.cls YX0_salmonOrEelSize.1 YX0_salmonOrEelSize.1 ∈ jm_tb := (jm_tb_in (List.mem_of_getElem? (i := 30) (by decide +kernel)) rfl)
theorem cd_X0_stickSize : Cond.code YX0_stickSize.1 YX0_stickSize.2.1 YX0_stickSize.2.2.1 YX0_stickSize.2.2.2.1 ∈ jm_tb := (jm_tb_in (List.mem_of_getElem? (i := 655) (by decide +kernel)) rfl)
theorem im_X0_stickSize : Cond.instanceMethod YX0_stickSize.1 ∈ jm_tb := (jm_tb_in (List.mem_of_getElem? (i := 654) (by decide +kernel)) rfl)
theorem se_X0_stickSize : Cond.selects YX0_stickSize.1.cls YX0_stickSize.1 YX0_stickSize.1 ∈ jm_tb := (jm_tb_in (List.mem_of_getElem? (i := 24) (by decide +kernel)) rfl)
theorem cd_X0_salmonSize : Cond.code YX0_salmonSize.1 YX0_salmonSize.2.1 YX0_salmonSize.2.2.1 YX0_salmonSize.2.2.2.1 ∈ jm_tb := (jm_tb_in (List.mem_of_getElem? (i := 683) (by decide +kernel)) rfl)
theorem im_X0_salmonSize : Cond.instanceMethod YX0_salmonSize.1 ∈ jm_tb := (jm_tb_in (List.mem_of_getElem? (i := 682) (by decide +kernel)) rfl)
theorem se_X0_salmonSize : Cond.selects YX0_salmonSize.1.cls YX0_salmonSize.1 YX0_salmonSize.1 ∈ jm_tb := (jm_tb_in (List.mem_of_getElem? (i := 31) (by decide +kernel)) rfl)
theorem cd_X0_lentSize : Cond.code YX0_lentSize.1 YX0_lentSize.2.1 YX0_lentSize.2.2.1 YX0_lentSize.2.2.2.1 ∈ jm_tb := (jm_tb_in (List.mem_of_getElem? (i := 663) (by decide +kernel)) rfl)
theorem im_X0_lentSize : Cond.instanceMethod YX0_lentSize.1 ∈ jm_tb := (jm_tb_in (List.mem_of_getElem? (i := 662) (by decide +kernel)) rfl)
theorem se_X0_lentSize : Cond.selects YX0_lentSize.1.cls YX0_lentSize.1 YX0_lentSize.1 ∈ jm_tb := (jm_tb_in (List.mem_of_getElem? (i := 26) (by decide +kernel)) rfl)
theorem cd_X0_stickMark : Cond.code YX0_stickMark.1 YX0_stickMark.2.1 YX0_stickMark.2.2.1 YX0_stickMark.2.2.2.1 ∈ jm_tb := (jm_tb_in (List.mem_of_getElem? (i := 671) (by decide +kernel)) rfl)
theorem im_X0_stickMark : Cond.instanceMethod YX0_stickMark.1 ∈ jm_tb := (jm_tb_in (List.mem_of_getElem? (i := 670) (by decide +kernel)) rfl)
theorem se_X0_stickMark : Cond.selects YX0_stickMark.1.cls YX0_stickMark.1 YX0_stickMark.1 ∈ jm_tb := (jm_tb_in (List.mem_of_getElem? (i := 28) (by decide +kernel)) rfl)
theorem cd_X0_salmonMark : Cond.code YX0_salmonMark.1 YX0_salmonMark.2.1 YX0_salmonMark.2.2.1 YX0_salmonMark.2.2.2.1 ∈ jm_tb := (jm_tb_in (List.mem_of_getElem? (i := 691) (by decide +kernel)) rfl)
theorem im_X0_salmonMark : Cond.instanceMethod YX0_salmonMark.1 ∈ jm_tb := (jm_tb_in (List.mem_of_getElem? (i := 690) (by decide +kernel)) rfl)
theorem se_X0_salmonMark : Cond.selects YX0_salmonMark.1.cls YX0_salmonMark.1 YX0_salmonMark.1 ∈ jm_tb := (jm_tb_in (List.mem_of_getElem? (i := 32) (by decide +kernel)) rfl)
theorem cd_X0_lentMark : Cond.code YX0_lentMark.1 YX0_lentMark.2.1 YX0_lentMark.2.2.1 YX0_lentMark.2.2.2.1 ∈ jm_tb := (jm_tb_in (List.mem_of_getElem? (i := 675) (by decide +kernel)) rfl)
theorem im_X0_lentMark : Cond.instanceMethod YX0_lentMark.1 ∈ jm_tb := (jm_tb_in (List.mem_of_getElem? (i := 674) (by decide +kernel)) rfl)
theorem se_X0_lentMark : Cond.selects YX0_lentMark.1.cls YX0_lentMark.1 YX0_lentMark.1 ∈ jm_tb := (jm_tb_in (List.mem_of_getElem? (i := 29) (by decide +kernel)) rfl)
theorem cd_X0_leave : Cond.code YX0_leave.1 YX0_leave.2.1 YX0_leave.2.2.1 YX0_leave.2.2.2.1 ∈ jm_tb := (jm_tb_in (List.mem_of_getElem? (i := 659) (by decide +kernel)) rfl)
theorem im_X0_leave : Cond.instanceMethod YX0_leave.1 ∈ jm_tb := (jm_tb_in (List.mem_of_getElem? (i := 658) (by decide +kernel)) rfl)
theorem se_X0_leave : Cond.selects YX0_leave.1.cls YX0_leave.1 YX0_leave.1 ∈ jm_tb := (jm_tb_in (List.mem_of_getElem? (i := 25) (by decide +kernel)) rfl)
theorem cd_X1_isOne : Cond.code YX1_isOne.1 YX1_isOne.2.1 YX1_isOne.2.2.1 YX1_isOne.2.2.2.1 ∈ jm_tb := (jm_tb_in (List.mem_of_getElem? (i := 422) (by decide +kernel)) rfl)
theorem sm_X1_isOne : Cond.static YX1_isOne.1 ∈ jm_tb := (jm_tb_in (List.mem_of_getElem? (i := 421) (by decide +kernel)) rfl)
theorem cd_X1_byLetter : Cond.code YX1_byLetter.1 YX1_byLetter.2.1 YX1_byLetter.2.2.1 YX1_byLetter.2.2.2.1 ∈ jm_tb := (jm_tb_in (List.mem_of_getElem? (i := 364) (by decide +kernel)) rfl)
theorem sm_X1_byLetter : Cond.static YX1_byLetter.1 ∈ jm_tb := (jm_tb_in (List.mem_of_getElem? (i := 363) (by decide +kernel)) rfl)
theorem cd_X2_packed : Cond.code YX2_packed.1 YX2_packed.2.1 YX2_packed.2.2.1 YX2_packed.2.2.2.1 ∈ jm_tb := (jm_tb_in (List.mem_of_getElem? (i := 367) (by decide +kernel)) rfl)
theorem sm_X2_packed : Cond.static YX2_packed.1 ∈ jm_tb := (jm_tb_in (List.mem_of_getElem? (i := 366) (by decide +kernel)) rfl)
theorem cd_X2_sizeIn : Cond.code YX2_sizeIn.1 YX2_sizeIn.2.1 YX2_sizeIn.2.2.1 YX2_sizeIn.2.2.2.1 ∈ jm_tb := (jm_tb_in (List.mem_of_getElem? (i := 419) (by decide +kernel)) rfl)
theorem sm_X2_sizeIn : Cond.static YX2_sizeIn.1 ∈ jm_tb := (jm_tb_in (List.mem_of_getElem? (i := 418) (by decide +kernel)) rfl)
theorem cd_X2_cellIn : Cond.code YX2_cellIn.1 YX2_cellIn.2.1 YX2_cellIn.2.2.1 YX2_cellIn.2.2.2.1 ∈ jm_tb := (jm_tb_in (List.mem_of_getElem? (i := 431) (by decide +kernel)) rfl)
theorem sm_X2_cellIn : Cond.static YX2_cellIn.1 ∈ jm_tb := (jm_tb_in (List.mem_of_getElem? (i := 430) (by decide +kernel)) rfl)
theorem cd_X2_isGone : Cond.code YX2_isGone.1 YX2_isGone.2.1 YX2_isGone.2.2.1 YX2_isGone.2.2.2.1 ∈ jm_tb := (jm_tb_in (List.mem_of_getElem? (i := 416) (by decide +kernel)) rfl)
theorem sm_X2_isGone : Cond.static YX2_isGone.1 ∈ jm_tb := (jm_tb_in (List.mem_of_getElem? (i := 415) (by decide +kernel)) rfl)
theorem cd_X2_empty : Cond.code YX2_empty.1 YX2_empty.2.1 YX2_empty.2.2.1 YX2_empty.2.2.2.1 ∈ jm_tb := (jm_tb_in (List.mem_of_getElem? (i := 321) (by decide +kernel)) rfl)
theorem im_X2_empty : Cond.instanceMethod YX2_empty.1 ∈ jm_tb := (jm_tb_in (List.mem_of_getElem? (i := 319) (by decide +kernel)) rfl)
theorem se_X2_empty : Cond.selects YX2_empty.1.cls YX2_empty.1 YX2_empty.1 ∈ jm_tb := (jm_tb_in (List.mem_of_getElem? (i := 320) (by decide +kernel)) rfl)
theorem cd_X2_become : Cond.code YX2_become.1 YX2_become.2.1 YX2_become.2.2.1 YX2_become.2.2.2.1 ∈ jm_tb := (jm_tb_in (List.mem_of_getElem? (i := 376) (by decide +kernel)) rfl)
theorem im_X2_become : Cond.instanceMethod YX2_become.1 ∈ jm_tb := (jm_tb_in (List.mem_of_getElem? (i := 374) (by decide +kernel)) rfl)
theorem se_X2_become : Cond.selects YX2_become.1.cls YX2_become.1 YX2_become.1 ∈ jm_tb := (jm_tb_in (List.mem_of_getElem? (i := 375) (by decide +kernel)) rfl)
theorem cd_X2_takeSpeeds : Cond.code YX2_takeSpeeds.1 YX2_takeSpeeds.2.1 YX2_takeSpeeds.2.2.1 YX2_takeSpeeds.2.2.2.1 ∈ jm_tb := (jm_tb_in (List.mem_of_getElem? (i := 550) (by decide +kernel)) rfl)
theorem im_X2_takeSpeeds : Cond.instanceMethod YX2_takeSpeeds.1 ∈ jm_tb := (jm_tb_in (List.mem_of_getElem? (i := 548) (by decide +kernel)) rfl)
theorem se_X2_takeSpeeds : Cond.selects YX2_takeSpeeds.1.cls YX2_takeSpeeds.1 YX2_takeSpeeds.1 ∈ jm_tb := (jm_tb_in (List.mem_of_getElem? (i := 549) (by decide +kernel)) rfl)
theorem cd_X2_hasCell : Cond.code YX2_hasCell.1 YX2_hasCell.2.1 YX2_hasCell.2.2.1 YX2_hasCell.2.2.2.1 ∈ jm_tb := (jm_tb_in (List.mem_of_getElem? (i := 456) (by decide +kernel)) rfl)
theorem im_X2_hasCell : Cond.instanceMethod YX2_hasCell.1 ∈ jm_tb := (jm_tb_in (List.mem_of_getElem? (i := 454) (by decide +kernel)) rfl)
theorem se_X2_hasCell : Cond.selects YX2_hasCell.1.cls YX2_hasCell.1 YX2_hasCell.1 ∈ jm_tb := (jm_tb_in (List.mem_of_getElem? (i := 455) (by decide +kernel)) rfl)
theorem cd_X2_hasWord : Cond.code YX2_hasWord.1 YX2_hasWord.2.1 YX2_hasWord.2.2.1 YX2_hasWord.2.2.2.1 ∈ jm_tb := (jm_tb_in (List.mem_of_getElem? (i := 452) (by decide +kernel)) rfl)
theorem im_X2_hasWord : Cond.instanceMethod YX2_hasWord.1 ∈ jm_tb := (jm_tb_in (List.mem_of_getElem? (i := 450) (by decide +kernel)) rfl)
theorem se_X2_hasWord : Cond.selects YX2_hasWord.1.cls YX2_hasWord.1 YX2_hasWord.1 ∈ jm_tb := (jm_tb_in (List.mem_of_getElem? (i := 451) (by decide +kernel)) rfl)
theorem cd_X2_sizeOf : Cond.code YX2_sizeOf.1 YX2_sizeOf.2.1 YX2_sizeOf.2.2.1 YX2_sizeOf.2.2.2.1 ∈ jm_tb := (jm_tb_in (List.mem_of_getElem? (i := 460) (by decide +kernel)) rfl)
theorem im_X2_sizeOf : Cond.instanceMethod YX2_sizeOf.1 ∈ jm_tb := (jm_tb_in (List.mem_of_getElem? (i := 458) (by decide +kernel)) rfl)
theorem se_X2_sizeOf : Cond.selects YX2_sizeOf.1.cls YX2_sizeOf.1 YX2_sizeOf.1 ∈ jm_tb := (jm_tb_in (List.mem_of_getElem? (i := 459) (by decide +kernel)) rfl)
theorem cd_X2_goneBits : Cond.code YX2_goneBits.1 YX2_goneBits.2.1 YX2_goneBits.2.2.1 YX2_goneBits.2.2.2.1 ∈ jm_tb := (jm_tb_in (List.mem_of_getElem? (i := 444) (by decide +kernel)) rfl)
theorem im_X2_goneBits : Cond.instanceMethod YX2_goneBits.1 ∈ jm_tb := (jm_tb_in (List.mem_of_getElem? (i := 442) (by decide +kernel)) rfl)
theorem se_X2_goneBits : Cond.selects YX2_goneBits.1.cls YX2_goneBits.1 YX2_goneBits.1 ∈ jm_tb := (jm_tb_in (List.mem_of_getElem? (i := 443) (by decide +kernel)) rfl)
theorem cd_X2_wordsIn : Cond.code YX2_wordsIn.1 YX2_wordsIn.2.1 YX2_wordsIn.2.2.1 YX2_wordsIn.2.2.2.1 ∈ jm_tb := (jm_tb_in (List.mem_of_getElem? (i := 494) (by decide +kernel)) rfl)
theorem im_X2_wordsIn : Cond.instanceMethod YX2_wordsIn.1 ∈ jm_tb := (jm_tb_in (List.mem_of_getElem? (i := 492) (by decide +kernel)) rfl)
theorem se_X2_wordsIn : Cond.selects YX2_wordsIn.1.cls YX2_wordsIn.1 YX2_wordsIn.1 ∈ jm_tb := (jm_tb_in (List.mem_of_getElem? (i := 493) (by decide +kernel)) rfl)
theorem cd_X2_hasClimber : Cond.code YX2_hasClimber.1 YX2_hasClimber.2.1 YX2_hasClimber.2.2.1 YX2_hasClimber.2.2.2.1 ∈ jm_tb := (jm_tb_in (List.mem_of_getElem? (i := 540) (by decide +kernel)) rfl)
theorem im_X2_hasClimber : Cond.instanceMethod YX2_hasClimber.1 ∈ jm_tb := (jm_tb_in (List.mem_of_getElem? (i := 538) (by decide +kernel)) rfl)
theorem se_X2_hasClimber : Cond.selects YX2_hasClimber.1.cls YX2_hasClimber.1 YX2_hasClimber.1 ∈ jm_tb := (jm_tb_in (List.mem_of_getElem? (i := 539) (by decide +kernel)) rfl)
theorem cd_X2_isWet : Cond.code YX2_isWet.1 YX2_isWet.2.1 YX2_isWet.2.2.1 YX2_isWet.2.2.2.1 ∈ jm_tb := (jm_tb_in (List.mem_of_getElem? (i := 409) (by decide +kernel)) rfl)
theorem im_X2_isWet : Cond.instanceMethod YX2_isWet.1 ∈ jm_tb := (jm_tb_in (List.mem_of_getElem? (i := 407) (by decide +kernel)) rfl)
theorem se_X2_isWet : Cond.selects YX2_isWet.1.cls YX2_isWet.1 YX2_isWet.1 ∈ jm_tb := (jm_tb_in (List.mem_of_getElem? (i := 408) (by decide +kernel)) rfl)
theorem cd_X2_paceOf : Cond.code YX2_paceOf.1 YX2_paceOf.2.1 YX2_paceOf.2.2.1 YX2_paceOf.2.2.2.1 ∈ jm_tb := (jm_tb_in (List.mem_of_getElem? (i := 435) (by decide +kernel)) rfl)
theorem im_X2_paceOf : Cond.instanceMethod YX2_paceOf.1 ∈ jm_tb := (jm_tb_in (List.mem_of_getElem? (i := 433) (by decide +kernel)) rfl)
theorem se_X2_paceOf : Cond.selects YX2_paceOf.1.cls YX2_paceOf.1 YX2_paceOf.1 ∈ jm_tb := (jm_tb_in (List.mem_of_getElem? (i := 434) (by decide +kernel)) rfl)
theorem cd_X2_passMinute : Cond.code YX2_passMinute.1 YX2_passMinute.2.1 YX2_passMinute.2.2.1 YX2_passMinute.2.2.2.1 ∈ jm_tb := (jm_tb_in (List.mem_of_getElem? (i := 405) (by decide +kernel)) rfl)
theorem im_X2_passMinute : Cond.instanceMethod YX2_passMinute.1 ∈ jm_tb := (jm_tb_in (List.mem_of_getElem? (i := 403) (by decide +kernel)) rfl)
theorem se_X2_passMinute : Cond.selects YX2_passMinute.1.cls YX2_passMinute.1 YX2_passMinute.1 ∈ jm_tb := (jm_tb_in (List.mem_of_getElem? (i := 404) (by decide +kernel)) rfl)
theorem cd_X2_moved : Cond.code YX2_moved.1 YX2_moved.2.1 YX2_moved.2.2.1 YX2_moved.2.2.2.1 ∈ jm_tb := (jm_tb_in (List.mem_of_getElem? (i := 413) (by decide +kernel)) rfl)
theorem im_X2_moved : Cond.instanceMethod YX2_moved.1 ∈ jm_tb := (jm_tb_in (List.mem_of_getElem? (i := 411) (by decide +kernel)) rfl)
theorem se_X2_moved : Cond.selects YX2_moved.1.cls YX2_moved.1 YX2_moved.1 ∈ jm_tb := (jm_tb_in (List.mem_of_getElem? (i := 412) (by decide +kernel)) rfl)
theorem cd_X2_drifted : Cond.code YX2_drifted.1 YX2_drifted.2.1 YX2_drifted.2.2.1 YX2_drifted.2.2.2.1 ∈ jm_tb := (jm_tb_in (List.mem_of_getElem? (i := 440) (by decide +kernel)) rfl)
theorem im_X2_drifted : Cond.instanceMethod YX2_drifted.1 ∈ jm_tb := (jm_tb_in (List.mem_of_getElem? (i := 439) (by decide +kernel)) rfl)
theorem se_X2_drifted : Cond.selects YX2_drifted.1.cls YX2_drifted.1 YX2_drifted.1 ∈ jm_tb := (jm_tb_in (List.mem_of_getElem? (i := 16) (by decide +kernel)) rfl)
theorem cd_X2_climbed : Cond.code YX2_climbed.1 YX2_climbed.2.1 YX2_climbed.2.2.1 YX2_climbed.2.2.2.1 ∈ jm_tb := (jm_tb_in (List.mem_of_getElem? (i := 428) (by decide +kernel)) rfl)
theorem im_X2_climbed : Cond.instanceMethod YX2_climbed.1 ∈ jm_tb := (jm_tb_in (List.mem_of_getElem? (i := 427) (by decide +kernel)) rfl)
theorem se_X2_climbed : Cond.selects YX2_climbed.1.cls YX2_climbed.1 YX2_climbed.1 ∈ jm_tb := (jm_tb_in (List.mem_of_getElem? (i := 15) (by decide +kernel)) rfl)
theorem cd_X2_foretold : Cond.code YX2_foretold.1 YX2_foretold.2.1 YX2_foretold.2.2.1 YX2_foretold.2.2.2.1 ∈ jm_tb := (jm_tb_in (List.mem_of_getElem? (i := 502) (by decide +kernel)) rfl)
theorem im_X2_foretold : Cond.instanceMethod YX2_foretold.1 ∈ jm_tb := (jm_tb_in (List.mem_of_getElem? (i := 500) (by decide +kernel)) rfl)
theorem se_X2_foretold : Cond.selects YX2_foretold.1.cls YX2_foretold.1 YX2_foretold.1 ∈ jm_tb := (jm_tb_in (List.mem_of_getElem? (i := 501) (by decide +kernel)) rfl)
theorem cd_X2_foretoldIn : Cond.code YX2_foretoldIn.1 YX2_foretoldIn.2.1 YX2_foretoldIn.2.2.1 YX2_foretoldIn.2.2.2.1 ∈ jm_tb := (jm_tb_in (List.mem_of_getElem? (i := 602) (by decide +kernel)) rfl)
theorem im_X2_foretoldIn : Cond.instanceMethod YX2_foretoldIn.1 ∈ jm_tb := (jm_tb_in (List.mem_of_getElem? (i := 600) (by decide +kernel)) rfl)
theorem se_X2_foretoldIn : Cond.selects YX2_foretoldIn.1.cls YX2_foretoldIn.1 YX2_foretoldIn.1 ∈ jm_tb := (jm_tb_in (List.mem_of_getElem? (i := 601) (by decide +kernel)) rfl)
theorem cd_X2_goneBehind : Cond.code YX2_goneBehind.1 YX2_goneBehind.2.1 YX2_goneBehind.2.2.1 YX2_goneBehind.2.2.2.1 ∈ jm_tb := (jm_tb_in (List.mem_of_getElem? (i := 519) (by decide +kernel)) rfl)
theorem im_X2_goneBehind : Cond.instanceMethod YX2_goneBehind.1 ∈ jm_tb := (jm_tb_in (List.mem_of_getElem? (i := 517) (by decide +kernel)) rfl)
theorem se_X2_goneBehind : Cond.selects YX2_goneBehind.1.cls YX2_goneBehind.1 YX2_goneBehind.1 ∈ jm_tb := (jm_tb_in (List.mem_of_getElem? (i := 518) (by decide +kernel)) rfl)
theorem cd_X2_quarrelBehind : Cond.code YX2_quarrelBehind.1 YX2_quarrelBehind.2.1 YX2_quarrelBehind.2.2.1 YX2_quarrelBehind.2.2.2.1 ∈ jm_tb := (jm_tb_in (List.mem_of_getElem? (i := 510) (by decide +kernel)) rfl)
theorem im_X2_quarrelBehind : Cond.instanceMethod YX2_quarrelBehind.1 ∈ jm_tb := (jm_tb_in (List.mem_of_getElem? (i := 508) (by decide +kernel)) rfl)
theorem se_X2_quarrelBehind : Cond.selects YX2_quarrelBehind.1.cls YX2_quarrelBehind.1 YX2_quarrelBehind.1 ∈ jm_tb := (jm_tb_in (List.mem_of_getElem? (i := 509) (by decide +kernel)) rfl)
theorem cd_X2_isAllGoneBehind : Cond.code YX2_isAllGoneBehind.1 YX2_isAllGoneBehind.2.1 YX2_isAllGoneBehind.2.2.1 YX2_isAllGoneBehind.2.2.2.1 ∈ jm_tb := (jm_tb_in (List.mem_of_getElem? (i := 554) (by decide +kernel)) rfl)
theorem im_X2_isAllGoneBehind : Cond.instanceMethod YX2_isAllGoneBehind.1 ∈ jm_tb := (jm_tb_in (List.mem_of_getElem? (i := 552) (by decide +kernel)) rfl)
theorem se_X2_isAllGoneBehind : Cond.selects YX2_isAllGoneBehind.1.cls YX2_isAllGoneBehind.1 YX2_isAllGoneBehind.1 ∈ jm_tb := (jm_tb_in (List.mem_of_getElem? (i := 553) (by decide +kernel)) rfl)
theorem cd_X2_goesAsTold : Cond.code YX2_goesAsTold.1 YX2_goesAsTold.2.1 YX2_goesAsTold.2.2.1 YX2_goesAsTold.2.2.2.1 ∈ jm_tb := (jm_tb_in (List.mem_of_getElem? (i := 574) (by decide +kernel)) rfl)
theorem im_X2_goesAsTold : Cond.instanceMethod YX2_goesAsTold.1 ∈ jm_tb := (jm_tb_in (List.mem_of_getElem? (i := 572) (by decide +kernel)) rfl)
theorem se_X2_goesAsTold : Cond.selects YX2_goesAsTold.1.cls YX2_goesAsTold.1 YX2_goesAsTold.1 ∈ jm_tb := (jm_tb_in (List.mem_of_getElem? (i := 573) (by decide +kernel)) rfl)
theorem cd_X2_sayDrawn : Cond.code YX2_sayDrawn.1 YX2_sayDrawn.2.1 YX2_sayDrawn.2.2.1 YX2_sayDrawn.2.2.2.1 ∈ jm_tb := (jm_tb_in (List.mem_of_getElem? (i := 620) (by decide +kernel)) rfl)
theorem im_X2_sayDrawn : Cond.instanceMethod YX2_sayDrawn.1 ∈ jm_tb := (jm_tb_in (List.mem_of_getElem? (i := 618) (by decide +kernel)) rfl)
theorem se_X2_sayDrawn : Cond.selects YX2_sayDrawn.1.cls YX2_sayDrawn.1 YX2_sayDrawn.1 ∈ jm_tb := (jm_tb_in (List.mem_of_getElem? (i := 619) (by decide +kernel)) rfl)
theorem cd_X3_isRow : Cond.code YX3_isRow.1 YX3_isRow.2.1 YX3_isRow.2.2.1 YX3_isRow.2.2.2.1 ∈ jm_tb := (jm_tb_in (List.mem_of_getElem? (i := 237) (by decide +kernel)) rfl)
theorem sm_X3_isRow : Cond.static YX3_isRow.1 ∈ jm_tb := (jm_tb_in (List.mem_of_getElem? (i := 236) (by decide +kernel)) rfl)
theorem cd_X3_isLane : Cond.code YX3_isLane.1 YX3_isLane.2.1 YX3_isLane.2.2.1 YX3_isLane.2.2.2.1 ∈ jm_tb := (jm_tb_in (List.mem_of_getElem? (i := 240) (by decide +kernel)) rfl)
theorem sm_X3_isLane : Cond.static YX3_isLane.1 ∈ jm_tb := (jm_tb_in (List.mem_of_getElem? (i := 239) (by decide +kernel)) rfl)
theorem cd_X3_isMissing : Cond.code YX3_isMissing.1 YX3_isMissing.2.1 YX3_isMissing.2.2.1 YX3_isMissing.2.2.2.1 ∈ jm_tb := (jm_tb_in (List.mem_of_getElem? (i := 262) (by decide +kernel)) rfl)
theorem im_X3_isMissing : Cond.instanceMethod YX3_isMissing.1 ∈ jm_tb := (jm_tb_in (List.mem_of_getElem? (i := 260) (by decide +kernel)) rfl)
theorem se_X3_isMissing : Cond.selects YX3_isMissing.1.cls YX3_isMissing.1 YX3_isMissing.1 ∈ jm_tb := (jm_tb_in (List.mem_of_getElem? (i := 261) (by decide +kernel)) rfl)
theorem cd_X3_haveOneLane : Cond.code YX3_haveOneLane.1 YX3_haveOneLane.2.1 YX3_haveOneLane.2.2.1 YX3_haveOneLane.2.2.2.1 ∈ jm_tb := (jm_tb_in (List.mem_of_getElem? (i := 278) (by decide +kernel)) rfl)
theorem im_X3_haveOneLane : Cond.instanceMethod YX3_haveOneLane.1 ∈ jm_tb := (jm_tb_in (List.mem_of_getElem? (i := 276) (by decide +kernel)) rfl)
theorem se_X3_haveOneLane : Cond.selects YX3_haveOneLane.1.cls YX3_haveOneLane.1 YX3_haveOneLane.1 ∈ jm_tb := (jm_tb_in (List.mem_of_getElem? (i := 277) (by decide +kernel)) rfl)
theorem cd_X3_hasPlaces : Cond.code YX3_hasPlaces.1 YX3_hasPlaces.2.1 YX3_hasPlaces.2.2.1 YX3_hasPlaces.2.2.2.1 ∈ jm_tb := (jm_tb_in (List.mem_of_getElem? (i := 266) (by decide +kernel)) rfl)
theorem im_X3_hasPlaces : Cond.instanceMethod YX3_hasPlaces.1 ∈ jm_tb := (jm_tb_in (List.mem_of_getElem? (i := 264) (by decide +kernel)) rfl)
theorem se_X3_hasPlaces : Cond.selects YX3_hasPlaces.1.cls YX3_hasPlaces.1 YX3_hasPlaces.1 ∈ jm_tb := (jm_tb_in (List.mem_of_getElem? (i := 265) (by decide +kernel)) rfl)
theorem cd_X3_lay : Cond.code YX3_lay.1 YX3_lay.2.1 YX3_lay.2.2.1 YX3_lay.2.2.2.1 ∈ jm_tb := (jm_tb_in (List.mem_of_getElem? (i := 250) (by decide +kernel)) rfl)
theorem im_X3_lay : Cond.instanceMethod YX3_lay.1 ∈ jm_tb := (jm_tb_in (List.mem_of_getElem? (i := 248) (by decide +kernel)) rfl)
theorem se_X3_lay : Cond.selects YX3_lay.1.cls YX3_lay.1 YX3_lay.1 ∈ jm_tb := (jm_tb_in (List.mem_of_getElem? (i := 249) (by decide +kernel)) rfl)
theorem cd_X3_put : Cond.code YX3_put.1 YX3_put.2.1 YX3_put.2.2.1 YX3_put.2.2.2.1 ∈ jm_tb := (jm_tb_in (List.mem_of_getElem? (i := 270) (by decide +kernel)) rfl)
theorem im_X3_put : Cond.instanceMethod YX3_put.1 ∈ jm_tb := (jm_tb_in (List.mem_of_getElem? (i := 268) (by decide +kernel)) rfl)
theorem se_X3_put : Cond.selects YX3_put.1.cls YX3_put.1 YX3_put.1 ∈ jm_tb := (jm_tb_in (List.mem_of_getElem? (i := 269) (by decide +kernel)) rfl)
theorem cd_X3_carry : Cond.code YX3_carry.1 YX3_carry.2.1 YX3_carry.2.2.1 YX3_carry.2.2.2.1 ∈ jm_tb := (jm_tb_in (List.mem_of_getElem? (i := 282) (by decide +kernel)) rfl)
theorem im_X3_carry : Cond.instanceMethod YX3_carry.1 ∈ jm_tb := (jm_tb_in (List.mem_of_getElem? (i := 280) (by decide +kernel)) rfl)
theorem se_X3_carry : Cond.selects YX3_carry.1.cls YX3_carry.1 YX3_carry.1 ∈ jm_tb := (jm_tb_in (List.mem_of_getElem? (i := 281) (by decide +kernel)) rfl)
theorem cd_X3_lose : Cond.code YX3_lose.1 YX3_lose.2.1 YX3_lose.2.2.1 YX3_lose.2.2.2.1 ∈ jm_tb := (jm_tb_in (List.mem_of_getElem? (i := 293) (by decide +kernel)) rfl)
theorem im_X3_lose : Cond.instanceMethod YX3_lose.1 ∈ jm_tb := (jm_tb_in (List.mem_of_getElem? (i := 291) (by decide +kernel)) rfl)
theorem se_X3_lose : Cond.selects YX3_lose.1.cls YX3_lose.1 YX3_lose.1 ∈ jm_tb := (jm_tb_in (List.mem_of_getElem? (i := 292) (by decide +kernel)) rfl)
theorem cd_X3_present : Cond.code YX3_present.1 YX3_present.2.1 YX3_present.2.2.1 YX3_present.2.2.2.1 ∈ jm_tb := (jm_tb_in (List.mem_of_getElem? (i := 707) (by decide +kernel)) rfl)
theorem im_X3_present : Cond.instanceMethod YX3_present.1 ∈ jm_tb := (jm_tb_in (List.mem_of_getElem? (i := 705) (by decide +kernel)) rfl)
theorem se_X3_present : Cond.selects YX3_present.1.cls YX3_present.1 YX3_present.1 ∈ jm_tb := (jm_tb_in (List.mem_of_getElem? (i := 706) (by decide +kernel)) rfl)
theorem cd_X4_isFull : Cond.code YX4_isFull.1 YX4_isFull.2.1 YX4_isFull.2.2.1 YX4_isFull.2.2.2.1 ∈ jm_tb := (jm_tb_in (List.mem_of_getElem? (i := 304) (by decide +kernel)) rfl)
theorem im_X4_isFull : Cond.instanceMethod YX4_isFull.1 ∈ jm_tb := (jm_tb_in (List.mem_of_getElem? (i := 302) (by decide +kernel)) rfl)
theorem se_X4_isFull : Cond.selects YX4_isFull.1.cls YX4_isFull.1 YX4_isFull.1 ∈ jm_tb := (jm_tb_in (List.mem_of_getElem? (i := 303) (by decide +kernel)) rfl)
theorem cd_X4_take : Cond.code YX4_take.1 YX4_take.2.1 YX4_take.2.2.1 YX4_take.2.2.2.1 ∈ jm_tb := (jm_tb_in (List.mem_of_getElem? (i := 309) (by decide +kernel)) rfl)
theorem im_X4_take : Cond.instanceMethod YX4_take.1 ∈ jm_tb := (jm_tb_in (List.mem_of_getElem? (i := 307) (by decide +kernel)) rfl)
theorem se_X4_take : Cond.selects YX4_take.1.cls YX4_take.1 YX4_take.1 ∈ jm_tb := (jm_tb_in (List.mem_of_getElem? (i := 308) (by decide +kernel)) rfl)
theorem cd_X4_wipe : Cond.code YX4_wipe.1 YX4_wipe.2.1 YX4_wipe.2.2.1 YX4_wipe.2.2.2.1 ∈ jm_tb := (jm_tb_in (List.mem_of_getElem? (i := 371) (by decide +kernel)) rfl)
theorem im_X4_wipe : Cond.instanceMethod YX4_wipe.1 ∈ jm_tb := (jm_tb_in (List.mem_of_getElem? (i := 369) (by decide +kernel)) rfl)
theorem se_X4_wipe : Cond.selects YX4_wipe.1.cls YX4_wipe.1 YX4_wipe.1 ∈ jm_tb := (jm_tb_in (List.mem_of_getElem? (i := 370) (by decide +kernel)) rfl)
theorem cd_X4_readInto : Cond.code YX4_readInto.1 YX4_readInto.2.1 YX4_readInto.2.2.1 YX4_readInto.2.2.2.1 ∈ jm_tb := (jm_tb_in (List.mem_of_getElem? (i := 317) (by decide +kernel)) rfl)
theorem im_X4_readInto : Cond.instanceMethod YX4_readInto.1 ∈ jm_tb := (jm_tb_in (List.mem_of_getElem? (i := 315) (by decide +kernel)) rfl)
theorem se_X4_readInto : Cond.selects YX4_readInto.1.cls YX4_readInto.1 YX4_readInto.1 ∈ jm_tb := (jm_tb_in (List.mem_of_getElem? (i := 316) (by decide +kernel)) rfl)
theorem cd_X4_readLaw : Cond.code YX4_readLaw.1 YX4_readLaw.2.1 YX4_readLaw.2.2.1 YX4_readLaw.2.2.2.1 ∈ jm_tb := (jm_tb_in (List.mem_of_getElem? (i := 325) (by decide +kernel)) rfl)
theorem im_X4_readLaw : Cond.instanceMethod YX4_readLaw.1 ∈ jm_tb := (jm_tb_in (List.mem_of_getElem? (i := 324) (by decide +kernel)) rfl)
theorem se_X4_readLaw : Cond.selects YX4_readLaw.1.cls YX4_readLaw.1 YX4_readLaw.1 ∈ jm_tb := (jm_tb_in (List.mem_of_getElem? (i := 2) (by decide +kernel)) rfl)
theorem cd_X4_readCells : Cond.code YX4_readCells.1 YX4_readCells.2.1 YX4_readCells.2.2.1 YX4_readCells.2.2.2.1 ∈ jm_tb := (jm_tb_in (List.mem_of_getElem? (i := 349) (by decide +kernel)) rfl)
theorem im_X4_readCells : Cond.instanceMethod YX4_readCells.1 ∈ jm_tb := (jm_tb_in (List.mem_of_getElem? (i := 348) (by decide +kernel)) rfl)
theorem se_X4_readCells : Cond.selects YX4_readCells.1.cls YX4_readCells.1 YX4_readCells.1 ∈ jm_tb := (jm_tb_in (List.mem_of_getElem? (i := 8) (by decide +kernel)) rfl)
theorem cd_X4_readCell : Cond.code YX4_readCell.1 YX4_readCell.2.1 YX4_readCell.2.2.1 YX4_readCell.2.2.2.1 ∈ jm_tb := (jm_tb_in (List.mem_of_getElem? (i := 353) (by decide +kernel)) rfl)
theorem im_X4_readCell : Cond.instanceMethod YX4_readCell.1 ∈ jm_tb := (jm_tb_in (List.mem_of_getElem? (i := 352) (by decide +kernel)) rfl)
theorem se_X4_readCell : Cond.selects YX4_readCell.1.cls YX4_readCell.1 YX4_readCell.1 ∈ jm_tb := (jm_tb_in (List.mem_of_getElem? (i := 9) (by decide +kernel)) rfl)
theorem cd_X4_readWords : Cond.code YX4_readWords.1 YX4_readWords.2.1 YX4_readWords.2.2.1 YX4_readWords.2.2.2.1 ∈ jm_tb := (jm_tb_in (List.mem_of_getElem? (i := 357) (by decide +kernel)) rfl)
theorem im_X4_readWords : Cond.instanceMethod YX4_readWords.1 ∈ jm_tb := (jm_tb_in (List.mem_of_getElem? (i := 356) (by decide +kernel)) rfl)
theorem se_X4_readWords : Cond.selects YX4_readWords.1.cls YX4_readWords.1 YX4_readWords.1 ∈ jm_tb := (jm_tb_in (List.mem_of_getElem? (i := 10) (by decide +kernel)) rfl)
theorem cd_X4_readWord : Cond.code YX4_readWord.1 YX4_readWord.2.1 YX4_readWord.2.2.1 YX4_readWord.2.2.2.1 ∈ jm_tb := (jm_tb_in (List.mem_of_getElem? (i := 361) (by decide +kernel)) rfl)
theorem im_X4_readWord : Cond.instanceMethod YX4_readWord.1 ∈ jm_tb := (jm_tb_in (List.mem_of_getElem? (i := 360) (by decide +kernel)) rfl)
theorem se_X4_readWord : Cond.selects YX4_readWord.1.cls YX4_readWord.1 YX4_readWord.1 ∈ jm_tb := (jm_tb_in (List.mem_of_getElem? (i := 11) (by decide +kernel)) rfl)
theorem cd_X4_isAt : Cond.code YX4_isAt.1 YX4_isAt.2.1 YX4_isAt.2.2.1 YX4_isAt.2.2.2.1 ∈ jm_tb := (jm_tb_in (List.mem_of_getElem? (i := 333) (by decide +kernel)) rfl)
theorem im_X4_isAt : Cond.instanceMethod YX4_isAt.1 ∈ jm_tb := (jm_tb_in (List.mem_of_getElem? (i := 332) (by decide +kernel)) rfl)
theorem se_X4_isAt : Cond.selects YX4_isAt.1.cls YX4_isAt.1 YX4_isAt.1 ∈ jm_tb := (jm_tb_in (List.mem_of_getElem? (i := 4) (by decide +kernel)) rfl)
theorem cd_X4_passes : Cond.code YX4_passes.1 YX4_passes.2.1 YX4_passes.2.2.1 YX4_passes.2.2.2.1 ∈ jm_tb := (jm_tb_in (List.mem_of_getElem? (i := 329) (by decide +kernel)) rfl)
theorem im_X4_passes : Cond.instanceMethod YX4_passes.1 ∈ jm_tb := (jm_tb_in (List.mem_of_getElem? (i := 328) (by decide +kernel)) rfl)
theorem se_X4_passes : Cond.selects YX4_passes.1.cls YX4_passes.1 YX4_passes.1 ∈ jm_tb := (jm_tb_in (List.mem_of_getElem? (i := 3) (by decide +kernel)) rfl)
theorem cd_X4_faulty : Cond.code YX4_faulty.1 YX4_faulty.2.1 YX4_faulty.2.2.1 YX4_faulty.2.2.2.1 ∈ jm_tb := (jm_tb_in (List.mem_of_getElem? (i := 337) (by decide +kernel)) rfl)
theorem im_X4_faulty : Cond.instanceMethod YX4_faulty.1 ∈ jm_tb := (jm_tb_in (List.mem_of_getElem? (i := 336) (by decide +kernel)) rfl)
theorem se_X4_faulty : Cond.selects YX4_faulty.1.cls YX4_faulty.1 YX4_faulty.1 ∈ jm_tb := (jm_tb_in (List.mem_of_getElem? (i := 5) (by decide +kernel)) rfl)
theorem cd_X4_readNumber : Cond.code YX4_readNumber.1 YX4_readNumber.2.1 YX4_readNumber.2.2.1 YX4_readNumber.2.2.2.1 ∈ jm_tb := (jm_tb_in (List.mem_of_getElem? (i := 341) (by decide +kernel)) rfl)
theorem im_X4_readNumber : Cond.instanceMethod YX4_readNumber.1 ∈ jm_tb := (jm_tb_in (List.mem_of_getElem? (i := 340) (by decide +kernel)) rfl)
theorem se_X4_readNumber : Cond.selects YX4_readNumber.1.cls YX4_readNumber.1 YX4_readNumber.1 ∈ jm_tb := (jm_tb_in (List.mem_of_getElem? (i := 6) (by decide +kernel)) rfl)
theorem cd_X4_figuresFrom : Cond.code YX4_figuresFrom.1 YX4_figuresFrom.2.1 YX4_figuresFrom.2.2.1 YX4_figuresFrom.2.2.2.1 ∈ jm_tb := (jm_tb_in (List.mem_of_getElem? (i := 345) (by decide +kernel)) rfl)
theorem im_X4_figuresFrom : Cond.instanceMethod YX4_figuresFrom.1 ∈ jm_tb := (jm_tb_in (List.mem_of_getElem? (i := 344) (by decide +kernel)) rfl)
theorem se_X4_figuresFrom : Cond.selects YX4_figuresFrom.1.cls YX4_figuresFrom.1 YX4_figuresFrom.1 ∈ jm_tb := (jm_tb_in (List.mem_of_getElem? (i := 7) (by decide +kernel)) rfl)
theorem cd_X5_row : Cond.code YX5_row.1 YX5_row.2.1 YX5_row.2.2.1 YX5_row.2.2.2.1 ∈ jm_tb := (jm_tb_in (List.mem_of_getElem? (i := 234) (by decide +kernel)) rfl)
theorem im_X5_row : Cond.instanceMethod YX5_row.1 ∈ jm_tb := (jm_tb_in (List.mem_of_getElem? (i := 232) (by decide +kernel)) rfl)
theorem se_X5_row : Cond.selects YX5_row.1.cls YX5_row.1 YX5_row.1 ∈ jm_tb := (jm_tb_in (List.mem_of_getElem? (i := 233) (by decide +kernel)) rfl)
theorem cd_X5_set : Cond.code YX5_set.1 YX5_set.2.1 YX5_set.2.2.1 YX5_set.2.2.2.1 ∈ jm_tb := (jm_tb_in (List.mem_of_getElem? (i := 258) (by decide +kernel)) rfl)
theorem im_X5_set : Cond.instanceMethod YX5_set.1 ∈ jm_tb := (jm_tb_in (List.mem_of_getElem? (i := 256) (by decide +kernel)) rfl)
theorem se_X5_set : Cond.selects YX5_set.1.cls YX5_set.1 YX5_set.1 ∈ jm_tb := (jm_tb_in (List.mem_of_getElem? (i := 257) (by decide +kernel)) rfl)
theorem cd_X5_copy : Cond.code YX5_copy.1 YX5_copy.2.1 YX5_copy.2.2.1 YX5_copy.2.2.2.1 ∈ jm_tb := (jm_tb_in (List.mem_of_getElem? (i := 274) (by decide +kernel)) rfl)
theorem im_X5_copy : Cond.instanceMethod YX5_copy.1 ∈ jm_tb := (jm_tb_in (List.mem_of_getElem? (i := 272) (by decide +kernel)) rfl)
theorem se_X5_copy : Cond.selects YX5_copy.1.cls YX5_copy.1 YX5_copy.1 ∈ jm_tb := (jm_tb_in (List.mem_of_getElem? (i := 273) (by decide +kernel)) rfl)
theorem cd_X5_drop : Cond.code YX5_drop.1 YX5_drop.2.1 YX5_drop.2.2.1 YX5_drop.2.2.2.1 ∈ jm_tb := (jm_tb_in (List.mem_of_getElem? (i := 289) (by decide +kernel)) rfl)
theorem im_X5_drop : Cond.instanceMethod YX5_drop.1 ∈ jm_tb := (jm_tb_in (List.mem_of_getElem? (i := 287) (by decide +kernel)) rfl)
theorem se_X5_drop : Cond.selects YX5_drop.1.cls YX5_drop.1 YX5_drop.1 ∈ jm_tb := (jm_tb_in (List.mem_of_getElem? (i := 288) (by decide +kernel)) rfl)
theorem cd_X5_feed : Cond.code YX5_feed.1 YX5_feed.2.1 YX5_feed.2.2.1 YX5_feed.2.2.2.1 ∈ jm_tb := (jm_tb_in (List.mem_of_getElem? (i := 297) (by decide +kernel)) rfl)
theorem im_X5_feed : Cond.instanceMethod YX5_feed.1 ∈ jm_tb := (jm_tb_in (List.mem_of_getElem? (i := 295) (by decide +kernel)) rfl)
theorem se_X5_feed : Cond.selects YX5_feed.1.cls YX5_feed.1 YX5_feed.1 ∈ jm_tb := (jm_tb_in (List.mem_of_getElem? (i := 296) (by decide +kernel)) rfl)
theorem cd_X5_river : Cond.code YX5_river.1 YX5_river.2.1 YX5_river.2.2.1 YX5_river.2.2.2.1 ∈ jm_tb := (jm_tb_in (List.mem_of_getElem? (i := 313) (by decide +kernel)) rfl)
theorem im_X5_river : Cond.instanceMethod YX5_river.1 ∈ jm_tb := (jm_tb_in (List.mem_of_getElem? (i := 311) (by decide +kernel)) rfl)
theorem se_X5_river : Cond.selects YX5_river.1.cls YX5_river.1 YX5_river.1 ∈ jm_tb := (jm_tb_in (List.mem_of_getElem? (i := 312) (by decide +kernel)) rfl)
theorem cd_X5_fault : Cond.code YX5_fault.1 YX5_fault.2.1 YX5_fault.2.2.1 YX5_fault.2.2.2.1 ∈ jm_tb := (jm_tb_in (List.mem_of_getElem? (i := 385) (by decide +kernel)) rfl)
theorem im_X5_fault : Cond.instanceMethod YX5_fault.1 ∈ jm_tb := (jm_tb_in (List.mem_of_getElem? (i := 383) (by decide +kernel)) rfl)
theorem se_X5_fault : Cond.selects YX5_fault.1.cls YX5_fault.1 YX5_fault.1 ∈ jm_tb := (jm_tb_in (List.mem_of_getElem? (i := 384) (by decide +kernel)) rfl)
theorem cd_X5_minutes : Cond.code YX5_minutes.1 YX5_minutes.2.1 YX5_minutes.2.2.1 YX5_minutes.2.2.2.1 ∈ jm_tb := (jm_tb_in (List.mem_of_getElem? (i := 389) (by decide +kernel)) rfl)
theorem im_X5_minutes : Cond.instanceMethod YX5_minutes.1 ∈ jm_tb := (jm_tb_in (List.mem_of_getElem? (i := 387) (by decide +kernel)) rfl)
theorem se_X5_minutes : Cond.selects YX5_minutes.1.cls YX5_minutes.1 YX5_minutes.1 ∈ jm_tb := (jm_tb_in (List.mem_of_getElem? (i := 388) (by decide +kernel)) rfl)
theorem cd_X5_say : Cond.code YX5_say.1 YX5_say.2.1 YX5_say.2.2.1 YX5_say.2.2.2.1 ∈ jm_tb := (jm_tb_in (List.mem_of_getElem? (i := 448) (by decide +kernel)) rfl)
theorem im_X5_say : Cond.instanceMethod YX5_say.1 ∈ jm_tb := (jm_tb_in (List.mem_of_getElem? (i := 446) (by decide +kernel)) rfl)
theorem se_X5_say : Cond.selects YX5_say.1.cls YX5_say.1 YX5_say.1 ∈ jm_tb := (jm_tb_in (List.mem_of_getElem? (i := 447) (by decide +kernel)) rfl)
theorem cd_X5_speed : Cond.code YX5_speed.1 YX5_speed.2.1 YX5_speed.2.2.1 YX5_speed.2.2.2.1 ∈ jm_tb := (jm_tb_in (List.mem_of_getElem? (i := 465) (by decide +kernel)) rfl)
theorem im_X5_speed : Cond.instanceMethod YX5_speed.1 ∈ jm_tb := (jm_tb_in (List.mem_of_getElem? (i := 463) (by decide +kernel)) rfl)
theorem se_X5_speed : Cond.selects YX5_speed.1.cls YX5_speed.1 YX5_speed.1 ∈ jm_tb := (jm_tb_in (List.mem_of_getElem? (i := 464) (by decide +kernel)) rfl)
theorem cd_X5_rain : Cond.code YX5_rain.1 YX5_rain.2.1 YX5_rain.2.2.1 YX5_rain.2.2.2.1 ∈ jm_tb := (jm_tb_in (List.mem_of_getElem? (i := 469) (by decide +kernel)) rfl)
theorem im_X5_rain : Cond.instanceMethod YX5_rain.1 ∈ jm_tb := (jm_tb_in (List.mem_of_getElem? (i := 467) (by decide +kernel)) rfl)
theorem se_X5_rain : Cond.selects YX5_rain.1.cls YX5_rain.1 YX5_rain.1 ∈ jm_tb := (jm_tb_in (List.mem_of_getElem? (i := 468) (by decide +kernel)) rfl)
theorem cd_X5_undo : Cond.code YX5_undo.1 YX5_undo.2.1 YX5_undo.2.2.1 YX5_undo.2.2.2.1 ∈ jm_tb := (jm_tb_in (List.mem_of_getElem? (i := 473) (by decide +kernel)) rfl)
theorem im_X5_undo : Cond.instanceMethod YX5_undo.1 ∈ jm_tb := (jm_tb_in (List.mem_of_getElem? (i := 471) (by decide +kernel)) rfl)
theorem se_X5_undo : Cond.selects YX5_undo.1.cls YX5_undo.1 YX5_undo.1 ∈ jm_tb := (jm_tb_in (List.mem_of_getElem? (i := 472) (by decide +kernel)) rfl)
theorem cd_X5_word : Cond.code YX5_word.1 YX5_word.2.1 YX5_word.2.2.1 YX5_word.2.2.2.1 ∈ jm_tb := (jm_tb_in (List.mem_of_getElem? (i := 477) (by decide +kernel)) rfl)
theorem im_X5_word : Cond.instanceMethod YX5_word.1 ∈ jm_tb := (jm_tb_in (List.mem_of_getElem? (i := 475) (by decide +kernel)) rfl)
theorem se_X5_word : Cond.selects YX5_word.1.cls YX5_word.1 YX5_word.1 ∈ jm_tb := (jm_tb_in (List.mem_of_getElem? (i := 476) (by decide +kernel)) rfl)
theorem cd_X5_cell : Cond.code YX5_cell.1 YX5_cell.2.1 YX5_cell.2.2.1 YX5_cell.2.2.2.1 ∈ jm_tb := (jm_tb_in (List.mem_of_getElem? (i := 488) (by decide +kernel)) rfl)
theorem im_X5_cell : Cond.instanceMethod YX5_cell.1 ∈ jm_tb := (jm_tb_in (List.mem_of_getElem? (i := 486) (by decide +kernel)) rfl)
theorem se_X5_cell : Cond.selects YX5_cell.1.cls YX5_cell.1 YX5_cell.1 ∈ jm_tb := (jm_tb_in (List.mem_of_getElem? (i := 487) (by decide +kernel)) rfl)
theorem cd_X5_ahead : Cond.code YX5_ahead.1 YX5_ahead.2.1 YX5_ahead.2.2.1 YX5_ahead.2.2.2.1 ∈ jm_tb := (jm_tb_in (List.mem_of_getElem? (i := 498) (by decide +kernel)) rfl)
theorem im_X5_ahead : Cond.instanceMethod YX5_ahead.1 ∈ jm_tb := (jm_tb_in (List.mem_of_getElem? (i := 496) (by decide +kernel)) rfl)
theorem se_X5_ahead : Cond.selects YX5_ahead.1.cls YX5_ahead.1 YX5_ahead.1 ∈ jm_tb := (jm_tb_in (List.mem_of_getElem? (i := 497) (by decide +kernel)) rfl)
theorem cd_X5_quarrel : Cond.code YX5_quarrel.1 YX5_quarrel.2.1 YX5_quarrel.2.2.1 YX5_quarrel.2.2.2.1 ∈ jm_tb := (jm_tb_in (List.mem_of_getElem? (i := 506) (by decide +kernel)) rfl)
theorem im_X5_quarrel : Cond.instanceMethod YX5_quarrel.1 ∈ jm_tb := (jm_tb_in (List.mem_of_getElem? (i := 504) (by decide +kernel)) rfl)
theorem se_X5_quarrel : Cond.selects YX5_quarrel.1.cls YX5_quarrel.1 YX5_quarrel.1 ∈ jm_tb := (jm_tb_in (List.mem_of_getElem? (i := 505) (by decide +kernel)) rfl)
theorem cd_X5_over : Cond.code YX5_over.1 YX5_over.2.1 YX5_over.2.2.1 YX5_over.2.2.2.1 ∈ jm_tb := (jm_tb_in (List.mem_of_getElem? (i := 515) (by decide +kernel)) rfl)
theorem im_X5_over : Cond.instanceMethod YX5_over.1 ∈ jm_tb := (jm_tb_in (List.mem_of_getElem? (i := 513) (by decide +kernel)) rfl)
theorem se_X5_over : Cond.selects YX5_over.1.cls YX5_over.1 YX5_over.1 ∈ jm_tb := (jm_tb_in (List.mem_of_getElem? (i := 514) (by decide +kernel)) rfl)
theorem cd_X5_kept : Cond.code YX5_kept.1 YX5_kept.2.1 YX5_kept.2.2.1 YX5_kept.2.2.2.1 ∈ jm_tb := (jm_tb_in (List.mem_of_getElem? (i := 524) (by decide +kernel)) rfl)
theorem im_X5_kept : Cond.instanceMethod YX5_kept.1 ∈ jm_tb := (jm_tb_in (List.mem_of_getElem? (i := 522) (by decide +kernel)) rfl)
theorem se_X5_kept : Cond.selects YX5_kept.1.cls YX5_kept.1 YX5_kept.1 ∈ jm_tb := (jm_tb_in (List.mem_of_getElem? (i := 523) (by decide +kernel)) rfl)
theorem cd_X5_calm : Cond.code YX5_calm.1 YX5_calm.2.1 YX5_calm.2.2.1 YX5_calm.2.2.2.1 ∈ jm_tb := (jm_tb_in (List.mem_of_getElem? (i := 528) (by decide +kernel)) rfl)
theorem im_X5_calm : Cond.instanceMethod YX5_calm.1 ∈ jm_tb := (jm_tb_in (List.mem_of_getElem? (i := 526) (by decide +kernel)) rfl)
theorem se_X5_calm : Cond.selects YX5_calm.1.cls YX5_calm.1 YX5_calm.1 ∈ jm_tb := (jm_tb_in (List.mem_of_getElem? (i := 527) (by decide +kernel)) rfl)
theorem cd_X5_swift : Cond.code YX5_swift.1 YX5_swift.2.1 YX5_swift.2.2.1 YX5_swift.2.2.2.1 ∈ jm_tb := (jm_tb_in (List.mem_of_getElem? (i := 532) (by decide +kernel)) rfl)
theorem im_X5_swift : Cond.instanceMethod YX5_swift.1 ∈ jm_tb := (jm_tb_in (List.mem_of_getElem? (i := 530) (by decide +kernel)) rfl)
theorem se_X5_swift : Cond.selects YX5_swift.1.cls YX5_swift.1 YX5_swift.1 ∈ jm_tb := (jm_tb_in (List.mem_of_getElem? (i := 531) (by decide +kernel)) rfl)
theorem cd_X5_stir : Cond.code YX5_stir.1 YX5_stir.2.1 YX5_stir.2.2.1 YX5_stir.2.2.2.1 ∈ jm_tb := (jm_tb_in (List.mem_of_getElem? (i := 558) (by decide +kernel)) rfl)
theorem im_X5_stir : Cond.instanceMethod YX5_stir.1 ∈ jm_tb := (jm_tb_in (List.mem_of_getElem? (i := 556) (by decide +kernel)) rfl)
theorem se_X5_stir : Cond.selects YX5_stir.1.cls YX5_stir.1 YX5_stir.1 ∈ jm_tb := (jm_tb_in (List.mem_of_getElem? (i := 557) (by decide +kernel)) rfl)
theorem cd_X5_share : Cond.code YX5_share.1 YX5_share.2.1 YX5_share.2.2.1 YX5_share.2.2.2.1 ∈ jm_tb := (jm_tb_in (List.mem_of_getElem? (i := 562) (by decide +kernel)) rfl)
theorem im_X5_share : Cond.instanceMethod YX5_share.1 ∈ jm_tb := (jm_tb_in (List.mem_of_getElem? (i := 560) (by decide +kernel)) rfl)
theorem se_X5_share : Cond.selects YX5_share.1.cls YX5_share.1 YX5_share.1 ∈ jm_tb := (jm_tb_in (List.mem_of_getElem? (i := 561) (by decide +kernel)) rfl)
theorem cd_X5_fits : Cond.code YX5_fits.1 YX5_fits.2.1 YX5_fits.2.2.1 YX5_fits.2.2.2.1 ∈ jm_tb := (jm_tb_in (List.mem_of_getElem? (i := 566) (by decide +kernel)) rfl)
theorem im_X5_fits : Cond.instanceMethod YX5_fits.1 ∈ jm_tb := (jm_tb_in (List.mem_of_getElem? (i := 564) (by decide +kernel)) rfl)
theorem se_X5_fits : Cond.selects YX5_fits.1.cls YX5_fits.1 YX5_fits.1 ∈ jm_tb := (jm_tb_in (List.mem_of_getElem? (i := 565) (by decide +kernel)) rfl)
theorem cd_X5_chance : Cond.code YX5_chance.1 YX5_chance.2.1 YX5_chance.2.2.1 YX5_chance.2.2.2.1 ∈ jm_tb := (jm_tb_in (List.mem_of_getElem? (i := 598) (by decide +kernel)) rfl)
theorem im_X5_chance : Cond.instanceMethod YX5_chance.1 ∈ jm_tb := (jm_tb_in (List.mem_of_getElem? (i := 596) (by decide +kernel)) rfl)
theorem se_X5_chance : Cond.selects YX5_chance.1.cls YX5_chance.1 YX5_chance.1 ∈ jm_tb := (jm_tb_in (List.mem_of_getElem? (i := 597) (by decide +kernel)) rfl)
theorem cd_X5_drawn : Cond.code YX5_drawn.1 YX5_drawn.2.1 YX5_drawn.2.2.1 YX5_drawn.2.2.2.1 ∈ jm_tb := (jm_tb_in (List.mem_of_getElem? (i := 612) (by decide +kernel)) rfl)
theorem im_X5_drawn : Cond.instanceMethod YX5_drawn.1 ∈ jm_tb := (jm_tb_in (List.mem_of_getElem? (i := 610) (by decide +kernel)) rfl)
theorem se_X5_drawn : Cond.selects YX5_drawn.1.cls YX5_drawn.1 YX5_drawn.1 ∈ jm_tb := (jm_tb_in (List.mem_of_getElem? (i := 611) (by decide +kernel)) rfl)
theorem cd_X5_image : Cond.code YX5_image.1 YX5_image.2.1 YX5_image.2.2.1 YX5_image.2.2.2.1 ∈ jm_tb := (jm_tb_in (List.mem_of_getElem? (i := 624) (by decide +kernel)) rfl)
theorem im_X5_image : Cond.instanceMethod YX5_image.1 ∈ jm_tb := (jm_tb_in (List.mem_of_getElem? (i := 622) (by decide +kernel)) rfl)
theorem se_X5_image : Cond.selects YX5_image.1.cls YX5_image.1 YX5_image.1 ∈ jm_tb := (jm_tb_in (List.mem_of_getElem? (i := 623) (by decide +kernel)) rfl)
theorem cd_X5_restore : Cond.code YX5_restore.1 YX5_restore.2.1 YX5_restore.2.2.1 YX5_restore.2.2.2.1 ∈ jm_tb := (jm_tb_in (List.mem_of_getElem? (i := 628) (by decide +kernel)) rfl)
theorem im_X5_restore : Cond.instanceMethod YX5_restore.1 ∈ jm_tb := (jm_tb_in (List.mem_of_getElem? (i := 626) (by decide +kernel)) rfl)
theorem se_X5_restore : Cond.selects YX5_restore.1.cls YX5_restore.1 YX5_restore.1 ∈ jm_tb := (jm_tb_in (List.mem_of_getElem? (i := 627) (by decide +kernel)) rfl)
theorem cd_X5_kind : Cond.code YX5_kind.1 YX5_kind.2.1 YX5_kind.2.2.1 YX5_kind.2.2.2.1 ∈ jm_tb := (jm_tb_in (List.mem_of_getElem? (i := 632) (by decide +kernel)) rfl)
theorem im_X5_kind : Cond.instanceMethod YX5_kind.1 ∈ jm_tb := (jm_tb_in (List.mem_of_getElem? (i := 630) (by decide +kernel)) rfl)
theorem se_X5_kind : Cond.selects YX5_kind.1.cls YX5_kind.1 YX5_kind.1 ∈ jm_tb := (jm_tb_in (List.mem_of_getElem? (i := 631) (by decide +kernel)) rfl)
theorem cd_X5_as : Cond.code YX5_as.1 YX5_as.2.1 YX5_as.2.2.1 YX5_as.2.2.2.1 ∈ jm_tb := (jm_tb_in (List.mem_of_getElem? (i := 636) (by decide +kernel)) rfl)
theorem im_X5_as : Cond.instanceMethod YX5_as.1 ∈ jm_tb := (jm_tb_in (List.mem_of_getElem? (i := 634) (by decide +kernel)) rfl)
theorem se_X5_as : Cond.selects YX5_as.1.cls YX5_as.1 YX5_as.1 ∈ jm_tb := (jm_tb_in (List.mem_of_getElem? (i := 635) (by decide +kernel)) rfl)
theorem cd_X5_ask : Cond.code YX5_ask.1 YX5_ask.2.1 YX5_ask.2.2.1 YX5_ask.2.2.2.1 ∈ jm_tb := (jm_tb_in (List.mem_of_getElem? (i := 641) (by decide +kernel)) rfl)
theorem im_X5_ask : Cond.instanceMethod YX5_ask.1 ∈ jm_tb := (jm_tb_in (List.mem_of_getElem? (i := 639) (by decide +kernel)) rfl)
theorem se_X5_ask : Cond.selects YX5_ask.1.cls YX5_ask.1 YX5_ask.1 ∈ jm_tb := (jm_tb_in (List.mem_of_getElem? (i := 640) (by decide +kernel)) rfl)
theorem cd_X5_trace : Cond.code YX5_trace.1 YX5_trace.2.1 YX5_trace.2.2.1 YX5_trace.2.2.2.1 ∈ jm_tb := (jm_tb_in (List.mem_of_getElem? (i := 695) (by decide +kernel)) rfl)
theorem im_X5_trace : Cond.instanceMethod YX5_trace.1 ∈ jm_tb := (jm_tb_in (List.mem_of_getElem? (i := 693) (by decide +kernel)) rfl)
theorem se_X5_trace : Cond.selects YX5_trace.1.cls YX5_trace.1 YX5_trace.1 ∈ jm_tb := (jm_tb_in (List.mem_of_getElem? (i := 694) (by decide +kernel)) rfl)
theorem cd_X5_count : Cond.code YX5_count.1 YX5_count.2.1 YX5_count.2.2.1 YX5_count.2.2.2.1 ∈ jm_tb := (jm_tb_in (List.mem_of_getElem? (i := 703) (by decide +kernel)) rfl)
theorem im_X5_count : Cond.instanceMethod YX5_count.1 ∈ jm_tb := (jm_tb_in (List.mem_of_getElem? (i := 701) (by decide +kernel)) rfl)
theorem se_X5_count : Cond.selects YX5_count.1.cls YX5_count.1 YX5_count.1 ∈ jm_tb := (jm_tb_in (List.mem_of_getElem? (i := 702) (by decide +kernel)) rfl)
theorem cd_X5_status : Cond.code YX5_status.1 YX5_status.2.1 YX5_status.2.2.1 YX5_status.2.2.2.1 ∈ jm_tb := (jm_tb_in (List.mem_of_getElem? (i := 712) (by decide +kernel)) rfl)
theorem im_X5_status : Cond.instanceMethod YX5_status.1 ∈ jm_tb := (jm_tb_in (List.mem_of_getElem? (i := 710) (by decide +kernel)) rfl)
theorem se_X5_status : Cond.selects YX5_status.1.cls YX5_status.1 YX5_status.1 ∈ jm_tb := (jm_tb_in (List.mem_of_getElem? (i := 711) (by decide +kernel)) rfl)
theorem cd_X5_isWithin : Cond.code YX5_isWithin.1 YX5_isWithin.2.1 YX5_isWithin.2.2.1 YX5_isWithin.2.2.2.1 ∈ jm_tb := (jm_tb_in (List.mem_of_getElem? (i := 300) (by decide +kernel)) rfl)
theorem sm_X5_isWithin : Cond.static YX5_isWithin.1 ∈ jm_tb := (jm_tb_in (List.mem_of_getElem? (i := 299) (by decide +kernel)) rfl)
theorem cd_X5_finding : Cond.code YX5_finding.1 YX5_finding.2.1 YX5_finding.2.2.1 YX5_finding.2.2.2.1 ∈ jm_tb := (jm_tb_in (List.mem_of_getElem? (i := 245) (by decide +kernel)) rfl)
theorem im_X5_finding : Cond.instanceMethod YX5_finding.1 ∈ jm_tb := (jm_tb_in (List.mem_of_getElem? (i := 244) (by decide +kernel)) rfl)
theorem se_X5_finding : Cond.selects YX5_finding.1.cls YX5_finding.1 YX5_finding.1 ∈ jm_tb := (jm_tb_in (List.mem_of_getElem? (i := 0) (by decide +kernel)) rfl)
theorem cd_X5_unfound : Cond.code YX5_unfound.1 YX5_unfound.2.1 YX5_unfound.2.2.1 YX5_unfound.2.2.2.1 ∈ jm_tb := (jm_tb_in (List.mem_of_getElem? (i := 254) (by decide +kernel)) rfl)
theorem im_X5_unfound : Cond.instanceMethod YX5_unfound.1 ∈ jm_tb := (jm_tb_in (List.mem_of_getElem? (i := 253) (by decide +kernel)) rfl)
theorem se_X5_unfound : Cond.selects YX5_unfound.1.cls YX5_unfound.1 YX5_unfound.1 ∈ jm_tb := (jm_tb_in (List.mem_of_getElem? (i := 1) (by decide +kernel)) rfl)
theorem cd_X5_hasRiver : Cond.code YX5_hasRiver.1 YX5_hasRiver.2.1 YX5_hasRiver.2.2.1 YX5_hasRiver.2.2.2.1 ∈ jm_tb := (jm_tb_in (List.mem_of_getElem? (i := 393) (by decide +kernel)) rfl)
theorem im_X5_hasRiver : Cond.instanceMethod YX5_hasRiver.1 ∈ jm_tb := (jm_tb_in (List.mem_of_getElem? (i := 392) (by decide +kernel)) rfl)
theorem se_X5_hasRiver : Cond.selects YX5_hasRiver.1.cls YX5_hasRiver.1 YX5_hasRiver.1 ∈ jm_tb := (jm_tb_in (List.mem_of_getElem? (i := 13) (by decide +kernel)) rfl)
theorem cd_X5_cellOrNone : Cond.code YX5_cellOrNone.1 YX5_cellOrNone.2.1 YX5_cellOrNone.2.2.1 YX5_cellOrNone.2.2.2.1 ∈ jm_tb := (jm_tb_in (List.mem_of_getElem? (i := 481) (by decide +kernel)) rfl)
theorem sm_X5_cellOrNone : Cond.static YX5_cellOrNone.1 ∈ jm_tb := (jm_tb_in (List.mem_of_getElem? (i := 480) (by decide +kernel)) rfl)
theorem cd_X5_keepAct : Cond.code YX5_keepAct.1 YX5_keepAct.2.1 YX5_keepAct.2.2.1 YX5_keepAct.2.2.2.1 ∈ jm_tb := (jm_tb_in (List.mem_of_getElem? (i := 398) (by decide +kernel)) rfl)
theorem im_X5_keepAct : Cond.instanceMethod YX5_keepAct.1 ∈ jm_tb := (jm_tb_in (List.mem_of_getElem? (i := 397) (by decide +kernel)) rfl)
theorem se_X5_keepAct : Cond.selects YX5_keepAct.1.cls YX5_keepAct.1 YX5_keepAct.1 ∈ jm_tb := (jm_tb_in (List.mem_of_getElem? (i := 14) (by decide +kernel)) rfl)
theorem cd_X5_forgetActs : Cond.code YX5_forgetActs.1 YX5_forgetActs.2.1 YX5_forgetActs.2.2.1 YX5_forgetActs.2.2.2.1 ∈ jm_tb := (jm_tb_in (List.mem_of_getElem? (i := 381) (by decide +kernel)) rfl)
theorem im_X5_forgetActs : Cond.instanceMethod YX5_forgetActs.1 ∈ jm_tb := (jm_tb_in (List.mem_of_getElem? (i := 380) (by decide +kernel)) rfl)
theorem se_X5_forgetActs : Cond.selects YX5_forgetActs.1.cls YX5_forgetActs.1 YX5_forgetActs.1 ∈ jm_tb := (jm_tb_in (List.mem_of_getElem? (i := 12) (by decide +kernel)) rfl)
theorem cd_X5_fewestSwift : Cond.code YX5_fewestSwift.1 YX5_fewestSwift.2.1 YX5_fewestSwift.2.2.1 YX5_fewestSwift.2.2.2.1 ∈ jm_tb := (jm_tb_in (List.mem_of_getElem? (i := 536) (by decide +kernel)) rfl)
theorem im_X5_fewestSwift : Cond.instanceMethod YX5_fewestSwift.1 ∈ jm_tb := (jm_tb_in (List.mem_of_getElem? (i := 535) (by decide +kernel)) rfl)
theorem se_X5_fewestSwift : Cond.selects YX5_fewestSwift.1.cls YX5_fewestSwift.1 YX5_fewestSwift.1 ∈ jm_tb := (jm_tb_in (List.mem_of_getElem? (i := 17) (by decide +kernel)) rfl)
theorem cd_X5_fittingSorts : Cond.code YX5_fittingSorts.1 YX5_fittingSorts.2.1 YX5_fittingSorts.2.2.1 YX5_fittingSorts.2.2.2.1 ∈ jm_tb := (jm_tb_in (List.mem_of_getElem? (i := 570) (by decide +kernel)) rfl)
theorem im_X5_fittingSorts : Cond.instanceMethod YX5_fittingSorts.1 ∈ jm_tb := (jm_tb_in (List.mem_of_getElem? (i := 569) (by decide +kernel)) rfl)
theorem se_X5_fittingSorts : Cond.selects YX5_fittingSorts.1.cls YX5_fittingSorts.1 YX5_fittingSorts.1 ∈ jm_tb := (jm_tb_in (List.mem_of_getElem? (i := 18) (by decide +kernel)) rfl)
theorem cd_X5_fittingStarts : Cond.code YX5_fittingStarts.1 YX5_fittingStarts.2.1 YX5_fittingStarts.2.2.1 YX5_fittingStarts.2.2.2.1 ∈ jm_tb := (jm_tb_in (List.mem_of_getElem? (i := 578) (by decide +kernel)) rfl)
theorem im_X5_fittingStarts : Cond.instanceMethod YX5_fittingStarts.1 ∈ jm_tb := (jm_tb_in (List.mem_of_getElem? (i := 577) (by decide +kernel)) rfl)
theorem se_X5_fittingStarts : Cond.selects YX5_fittingStarts.1.cls YX5_fittingStarts.1 YX5_fittingStarts.1 ∈ jm_tb := (jm_tb_in (List.mem_of_getElem? (i := 19) (by decide +kernel)) rfl)
theorem cd_X5_fittingRains : Cond.code YX5_fittingRains.1 YX5_fittingRains.2.1 YX5_fittingRains.2.2.1 YX5_fittingRains.2.2.2.1 ∈ jm_tb := (jm_tb_in (List.mem_of_getElem? (i := 582) (by decide +kernel)) rfl)
theorem im_X5_fittingRains : Cond.instanceMethod YX5_fittingRains.1 ∈ jm_tb := (jm_tb_in (List.mem_of_getElem? (i := 581) (by decide +kernel)) rfl)
theorem se_X5_fittingRains : Cond.selects YX5_fittingRains.1.cls YX5_fittingRains.1 YX5_fittingRains.1 ∈ jm_tb := (jm_tb_in (List.mem_of_getElem? (i := 20) (by decide +kernel)) rfl)
theorem cd_X5_fittingSizes : Cond.code YX5_fittingSizes.1 YX5_fittingSizes.2.1 YX5_fittingSizes.2.2.1 YX5_fittingSizes.2.2.2.1 ∈ jm_tb := (jm_tb_in (List.mem_of_getElem? (i := 586) (by decide +kernel)) rfl)
theorem im_X5_fittingSizes : Cond.instanceMethod YX5_fittingSizes.1 ∈ jm_tb := (jm_tb_in (List.mem_of_getElem? (i := 585) (by decide +kernel)) rfl)
theorem se_X5_fittingSizes : Cond.selects YX5_fittingSizes.1.cls YX5_fittingSizes.1 YX5_fittingSizes.1 ∈ jm_tb := (jm_tb_in (List.mem_of_getElem? (i := 21) (by decide +kernel)) rfl)
theorem cd_X5_leastFittingSize : Cond.code YX5_leastFittingSize.1 YX5_leastFittingSize.2.1 YX5_leastFittingSize.2.2.1 YX5_leastFittingSize.2.2.2.1 ∈ jm_tb := (jm_tb_in (List.mem_of_getElem? (i := 594) (by decide +kernel)) rfl)
theorem im_X5_leastFittingSize : Cond.instanceMethod YX5_leastFittingSize.1 ∈ jm_tb := (jm_tb_in (List.mem_of_getElem? (i := 593) (by decide +kernel)) rfl)
theorem se_X5_leastFittingSize : Cond.selects YX5_leastFittingSize.1.cls YX5_leastFittingSize.1 YX5_leastFittingSize.1 ∈ jm_tb := (jm_tb_in (List.mem_of_getElem? (i := 23) (by decide +kernel)) rfl)
theorem cd_X5_fitsSize : Cond.code YX5_fitsSize.1 YX5_fitsSize.2.1 YX5_fitsSize.2.2.1 YX5_fitsSize.2.2.2.1 ∈ jm_tb := (jm_tb_in (List.mem_of_getElem? (i := 590) (by decide +kernel)) rfl)
theorem im_X5_fitsSize : Cond.instanceMethod YX5_fitsSize.1 ∈ jm_tb := (jm_tb_in (List.mem_of_getElem? (i := 589) (by decide +kernel)) rfl)
theorem se_X5_fitsSize : Cond.selects YX5_fitsSize.1.cls YX5_fitsSize.1 YX5_fitsSize.1 ∈ jm_tb := (jm_tb_in (List.mem_of_getElem? (i := 22) (by decide +kernel)) rfl)
theorem cd_X5_power : Cond.code YX5_power.1 YX5_power.2.1 YX5_power.2.2.1 YX5_power.2.2.2.1 ∈ jm_tb := (jm_tb_in (List.mem_of_getElem? (i := 605) (by decide +kernel)) rfl)
theorem sm_X5_power : Cond.static YX5_power.1 ∈ jm_tb := (jm_tb_in (List.mem_of_getElem? (i := 604) (by decide +kernel)) rfl)
theorem cd_X5_commonDivisor : Cond.code YX5_commonDivisor.1 YX5_commonDivisor.2.1 YX5_commonDivisor.2.2.1 YX5_commonDivisor.2.2.2.1 ∈ jm_tb := (jm_tb_in (List.mem_of_getElem? (i := 608) (by decide +kernel)) rfl)
theorem sm_X5_commonDivisor : Cond.static YX5_commonDivisor.1 ∈ jm_tb := (jm_tb_in (List.mem_of_getElem? (i := 607) (by decide +kernel)) rfl)
theorem cd_X6_in : Cond.code YX6_in.1 YX6_in.2.1 YX6_in.2.2.1 YX6_in.2.2.2.1 ∈ jm_tb := (jm_tb_in (List.mem_of_getElem? (i := 797) (by decide +kernel)) rfl)
theorem sm_X6_in : Cond.static YX6_in.1 ∈ jm_tb := (jm_tb_in (List.mem_of_getElem? (i := 796) (by decide +kernel)) rfl)
theorem cd_X6_has : Cond.code YX6_has.1 YX6_has.2.1 YX6_has.2.2.1 YX6_has.2.2.2.1 ∈ jm_tb := (jm_tb_in (List.mem_of_getElem? (i := 914) (by decide +kernel)) rfl)
theorem sm_X6_has : Cond.static YX6_has.1 ∈ jm_tb := (jm_tb_in (List.mem_of_getElem? (i := 913) (by decide +kernel)) rfl)
theorem cd_X6_ones : Cond.code YX6_ones.1 YX6_ones.2.1 YX6_ones.2.2.1 YX6_ones.2.2.2.1 ∈ jm_tb := (jm_tb_in (List.mem_of_getElem? (i := 1002) (by decide +kernel)) rfl)
theorem sm_X6_ones : Cond.static YX6_ones.1 ∈ jm_tb := (jm_tb_in (List.mem_of_getElem? (i := 1001) (by decide +kernel)) rfl)
theorem cd_X6_found : Cond.code YX6_found.1 YX6_found.2.1 YX6_found.2.2.1 YX6_found.2.2.2.1 ∈ jm_tb := (jm_tb_in (List.mem_of_getElem? (i := 802) (by decide +kernel)) rfl)
theorem im_X6_found : Cond.instanceMethod YX6_found.1 ∈ jm_tb := (jm_tb_in (List.mem_of_getElem? (i := 801) (by decide +kernel)) rfl)
theorem se_X6_found : Cond.selects YX6_found.1.cls YX6_found.1 YX6_found.1 ∈ jm_tb := (jm_tb_in (List.mem_of_getElem? (i := 33) (by decide +kernel)) rfl)
theorem cd_X6_well : Cond.code YX6_well.1 YX6_well.2.1 YX6_well.2.2.1 YX6_well.2.2.2.1 ∈ jm_tb := (jm_tb_in (List.mem_of_getElem? (i := 807) (by decide +kernel)) rfl)
theorem im_X6_well : Cond.instanceMethod YX6_well.1 ∈ jm_tb := (jm_tb_in (List.mem_of_getElem? (i := 806) (by decide +kernel)) rfl)
theorem se_X6_well : Cond.selects YX6_well.1.cls YX6_well.1 YX6_well.1 ∈ jm_tb := (jm_tb_in (List.mem_of_getElem? (i := 34) (by decide +kernel)) rfl)
theorem cd_X6_copies : Cond.code YX6_copies.1 YX6_copies.2.1 YX6_copies.2.2.1 YX6_copies.2.2.2.1 ∈ jm_tb := (jm_tb_in (List.mem_of_getElem? (i := 882) (by decide +kernel)) rfl)
theorem sm_X6_copies : Cond.static YX6_copies.1 ∈ jm_tb := (jm_tb_in (List.mem_of_getElem? (i := 881) (by decide +kernel)) rfl)
theorem cd_X6_isRow : Cond.code YX6_isRow.1 YX6_isRow.2.1 YX6_isRow.2.2.1 YX6_isRow.2.2.2.1 ∈ jm_tb := (jm_tb_in (List.mem_of_getElem? (i := 794) (by decide +kernel)) rfl)
theorem sm_X6_isRow : Cond.static YX6_isRow.1 ∈ jm_tb := (jm_tb_in (List.mem_of_getElem? (i := 793) (by decide +kernel)) rfl)
theorem cd_X6_isMissing : Cond.code YX6_isMissing.1 YX6_isMissing.2.1 YX6_isMissing.2.2.1 YX6_isMissing.2.2.2.1 ∈ jm_tb := (jm_tb_in (List.mem_of_getElem? (i := 815) (by decide +kernel)) rfl)
theorem im_X6_isMissing : Cond.instanceMethod YX6_isMissing.1 ∈ jm_tb := (jm_tb_in (List.mem_of_getElem? (i := 814) (by decide +kernel)) rfl)
theorem se_X6_isMissing : Cond.selects YX6_isMissing.1.cls YX6_isMissing.1 YX6_isMissing.1 ∈ jm_tb := (jm_tb_in (List.mem_of_getElem? (i := 35) (by decide +kernel)) rfl)
theorem cd_X6_cut : Cond.code YX6_cut.1 YX6_cut.2.1 YX6_cut.2.2.1 YX6_cut.2.2.2.1 ∈ jm_tb := (jm_tb_in (List.mem_of_getElem? (i := 818) (by decide +kernel)) rfl)
theorem sm_X6_cut : Cond.static YX6_cut.1 ∈ jm_tb := (jm_tb_in (List.mem_of_getElem? (i := 817) (by decide +kernel)) rfl)
theorem cd_X6_row : Cond.code YX6_row.1 YX6_row.2.1 YX6_row.2.2.1 YX6_row.2.2.2.1 ∈ jm_tb := (jm_tb_in (List.mem_of_getElem? (i := 791) (by decide +kernel)) rfl)
theorem im_X6_row : Cond.instanceMethod YX6_row.1 ∈ jm_tb := (jm_tb_in (List.mem_of_getElem? (i := 789) (by decide +kernel)) rfl)
theorem se_X6_row : Cond.selects YX6_row.1.cls YX6_row.1 YX6_row.1 ∈ jm_tb := (jm_tb_in (List.mem_of_getElem? (i := 790) (by decide +kernel)) rfl)
theorem cd_X6_set : Cond.code YX6_set.1 YX6_set.2.1 YX6_set.2.2.1 YX6_set.2.2.2.1 ∈ jm_tb := (jm_tb_in (List.mem_of_getElem? (i := 811) (by decide +kernel)) rfl)
theorem im_X6_set : Cond.instanceMethod YX6_set.1 ∈ jm_tb := (jm_tb_in (List.mem_of_getElem? (i := 809) (by decide +kernel)) rfl)
theorem se_X6_set : Cond.selects YX6_set.1.cls YX6_set.1 YX6_set.1 ∈ jm_tb := (jm_tb_in (List.mem_of_getElem? (i := 810) (by decide +kernel)) rfl)
theorem cd_X6_isPart : Cond.code YX6_isPart.1 YX6_isPart.2.1 YX6_isPart.2.2.1 YX6_isPart.2.2.2.1 ∈ jm_tb := (jm_tb_in (List.mem_of_getElem? (i := 826) (by decide +kernel)) rfl)
theorem im_X6_isPart : Cond.instanceMethod YX6_isPart.1 ∈ jm_tb := (jm_tb_in (List.mem_of_getElem? (i := 825) (by decide +kernel)) rfl)
theorem se_X6_isPart : Cond.selects YX6_isPart.1.cls YX6_isPart.1 YX6_isPart.1 ∈ jm_tb := (jm_tb_in (List.mem_of_getElem? (i := 36) (by decide +kernel)) rfl)
theorem cd_X6_copy : Cond.code YX6_copy.1 YX6_copy.2.1 YX6_copy.2.2.1 YX6_copy.2.2.2.1 ∈ jm_tb := (jm_tb_in (List.mem_of_getElem? (i := 822) (by decide +kernel)) rfl)
theorem im_X6_copy : Cond.instanceMethod YX6_copy.1 ∈ jm_tb := (jm_tb_in (List.mem_of_getElem? (i := 820) (by decide +kernel)) rfl)
theorem se_X6_copy : Cond.selects YX6_copy.1.cls YX6_copy.1 YX6_copy.1 ∈ jm_tb := (jm_tb_in (List.mem_of_getElem? (i := 821) (by decide +kernel)) rfl)
theorem cd_X6_drop : Cond.code YX6_drop.1 YX6_drop.2.1 YX6_drop.2.2.1 YX6_drop.2.2.2.1 ∈ jm_tb := (jm_tb_in (List.mem_of_getElem? (i := 830) (by decide +kernel)) rfl)
theorem im_X6_drop : Cond.instanceMethod YX6_drop.1 ∈ jm_tb := (jm_tb_in (List.mem_of_getElem? (i := 828) (by decide +kernel)) rfl)
theorem se_X6_drop : Cond.selects YX6_drop.1.cls YX6_drop.1 YX6_drop.1 ∈ jm_tb := (jm_tb_in (List.mem_of_getElem? (i := 829) (by decide +kernel)) rfl)
theorem cd_X6_feed : Cond.code YX6_feed.1 YX6_feed.2.1 YX6_feed.2.2.1 YX6_feed.2.2.2.1 ∈ jm_tb := (jm_tb_in (List.mem_of_getElem? (i := 834) (by decide +kernel)) rfl)
theorem im_X6_feed : Cond.instanceMethod YX6_feed.1 ∈ jm_tb := (jm_tb_in (List.mem_of_getElem? (i := 832) (by decide +kernel)) rfl)
theorem se_X6_feed : Cond.selects YX6_feed.1.cls YX6_feed.1 YX6_feed.1 ∈ jm_tb := (jm_tb_in (List.mem_of_getElem? (i := 833) (by decide +kernel)) rfl)
theorem cd_X6_byteAt : Cond.code YX6_byteAt.1 YX6_byteAt.2.1 YX6_byteAt.2.2.1 YX6_byteAt.2.2.2.1 ∈ jm_tb := (jm_tb_in (List.mem_of_getElem? (i := 847) (by decide +kernel)) rfl)
theorem im_X6_byteAt : Cond.instanceMethod YX6_byteAt.1 ∈ jm_tb := (jm_tb_in (List.mem_of_getElem? (i := 846) (by decide +kernel)) rfl)
theorem se_X6_byteAt : Cond.selects YX6_byteAt.1.cls YX6_byteAt.1 YX6_byteAt.1 ∈ jm_tb := (jm_tb_in (List.mem_of_getElem? (i := 38) (by decide +kernel)) rfl)
theorem cd_X6_advances : Cond.code YX6_advances.1 YX6_advances.2.1 YX6_advances.2.2.1 YX6_advances.2.2.2.1 ∈ jm_tb := (jm_tb_in (List.mem_of_getElem? (i := 843) (by decide +kernel)) rfl)
theorem im_X6_advances : Cond.instanceMethod YX6_advances.1 ∈ jm_tb := (jm_tb_in (List.mem_of_getElem? (i := 842) (by decide +kernel)) rfl)
theorem se_X6_advances : Cond.selects YX6_advances.1.cls YX6_advances.1 YX6_advances.1 ∈ jm_tb := (jm_tb_in (List.mem_of_getElem? (i := 37) (by decide +kernel)) rfl)
theorem cd_X6_isWell : Cond.code YX6_isWell.1 YX6_isWell.2.1 YX6_isWell.2.2.1 YX6_isWell.2.2.2.1 ∈ jm_tb := (jm_tb_in (List.mem_of_getElem? (i := 855) (by decide +kernel)) rfl)
theorem im_X6_isWell : Cond.instanceMethod YX6_isWell.1 ∈ jm_tb := (jm_tb_in (List.mem_of_getElem? (i := 854) (by decide +kernel)) rfl)
theorem se_X6_isWell : Cond.selects YX6_isWell.1.cls YX6_isWell.1 YX6_isWell.1 ∈ jm_tb := (jm_tb_in (List.mem_of_getElem? (i := 40) (by decide +kernel)) rfl)
theorem cd_X6_takes : Cond.code YX6_takes.1 YX6_takes.2.1 YX6_takes.2.2.1 YX6_takes.2.2.2.1 ∈ jm_tb := (jm_tb_in (List.mem_of_getElem? (i := 851) (by decide +kernel)) rfl)
theorem im_X6_takes : Cond.instanceMethod YX6_takes.1 ∈ jm_tb := (jm_tb_in (List.mem_of_getElem? (i := 850) (by decide +kernel)) rfl)
theorem se_X6_takes : Cond.selects YX6_takes.1.cls YX6_takes.1 YX6_takes.1 ∈ jm_tb := (jm_tb_in (List.mem_of_getElem? (i := 39) (by decide +kernel)) rfl)
theorem cd_X6_figure : Cond.code YX6_figure.1 YX6_figure.2.1 YX6_figure.2.2.1 YX6_figure.2.2.2.1 ∈ jm_tb := (jm_tb_in (List.mem_of_getElem? (i := 859) (by decide +kernel)) rfl)
theorem im_X6_figure : Cond.instanceMethod YX6_figure.1 ∈ jm_tb := (jm_tb_in (List.mem_of_getElem? (i := 858) (by decide +kernel)) rfl)
theorem se_X6_figure : Cond.selects YX6_figure.1.cls YX6_figure.1 YX6_figure.1 ∈ jm_tb := (jm_tb_in (List.mem_of_getElem? (i := 41) (by decide +kernel)) rfl)
theorem cd_X6_kindOf : Cond.code YX6_kindOf.1 YX6_kindOf.2.1 YX6_kindOf.2.2.1 YX6_kindOf.2.2.2.1 ∈ jm_tb := (jm_tb_in (List.mem_of_getElem? (i := 874) (by decide +kernel)) rfl)
theorem sm_X6_kindOf : Cond.static YX6_kindOf.1 ∈ jm_tb := (jm_tb_in (List.mem_of_getElem? (i := 873) (by decide +kernel)) rfl)
theorem cd_X6_follows : Cond.code YX6_follows.1 YX6_follows.2.1 YX6_follows.2.2.1 YX6_follows.2.2.2.1 ∈ jm_tb := (jm_tb_in (List.mem_of_getElem? (i := 863) (by decide +kernel)) rfl)
theorem im_X6_follows : Cond.instanceMethod YX6_follows.1 ∈ jm_tb := (jm_tb_in (List.mem_of_getElem? (i := 862) (by decide +kernel)) rfl)
theorem se_X6_follows : Cond.selects YX6_follows.1.cls YX6_follows.1 YX6_follows.1 ∈ jm_tb := (jm_tb_in (List.mem_of_getElem? (i := 42) (by decide +kernel)) rfl)
theorem cd_X6_readsCell : Cond.code YX6_readsCell.1 YX6_readsCell.2.1 YX6_readsCell.2.2.1 YX6_readsCell.2.2.2.1 ∈ jm_tb := (jm_tb_in (List.mem_of_getElem? (i := 867) (by decide +kernel)) rfl)
theorem im_X6_readsCell : Cond.instanceMethod YX6_readsCell.1 ∈ jm_tb := (jm_tb_in (List.mem_of_getElem? (i := 866) (by decide +kernel)) rfl)
theorem se_X6_readsCell : Cond.selects YX6_readsCell.1.cls YX6_readsCell.1 YX6_readsCell.1 ∈ jm_tb := (jm_tb_in (List.mem_of_getElem? (i := 43) (by decide +kernel)) rfl)
theorem cd_X6_readsWord : Cond.code YX6_readsWord.1 YX6_readsWord.2.1 YX6_readsWord.2.2.1 YX6_readsWord.2.2.2.1 ∈ jm_tb := (jm_tb_in (List.mem_of_getElem? (i := 878) (by decide +kernel)) rfl)
theorem im_X6_readsWord : Cond.instanceMethod YX6_readsWord.1 ∈ jm_tb := (jm_tb_in (List.mem_of_getElem? (i := 877) (by decide +kernel)) rfl)
theorem se_X6_readsWord : Cond.selects YX6_readsWord.1.cls YX6_readsWord.1 YX6_readsWord.1 ∈ jm_tb := (jm_tb_in (List.mem_of_getElem? (i := 45) (by decide +kernel)) rfl)
theorem cd_X6_must : Cond.code YX6_must.1 YX6_must.2.1 YX6_must.2.2.1 YX6_must.2.2.2.1 ∈ jm_tb := (jm_tb_in (List.mem_of_getElem? (i := 871) (by decide +kernel)) rfl)
theorem im_X6_must : Cond.instanceMethod YX6_must.1 ∈ jm_tb := (jm_tb_in (List.mem_of_getElem? (i := 870) (by decide +kernel)) rfl)
theorem se_X6_must : Cond.selects YX6_must.1.cls YX6_must.1 YX6_must.1 ∈ jm_tb := (jm_tb_in (List.mem_of_getElem? (i := 44) (by decide +kernel)) rfl)
theorem cd_X6_river : Cond.code YX6_river.1 YX6_river.2.1 YX6_river.2.2.1 YX6_river.2.2.2.1 ∈ jm_tb := (jm_tb_in (List.mem_of_getElem? (i := 839) (by decide +kernel)) rfl)
theorem im_X6_river : Cond.instanceMethod YX6_river.1 ∈ jm_tb := (jm_tb_in (List.mem_of_getElem? (i := 837) (by decide +kernel)) rfl)
theorem se_X6_river : Cond.selects YX6_river.1.cls YX6_river.1 YX6_river.1 ∈ jm_tb := (jm_tb_in (List.mem_of_getElem? (i := 838) (by decide +kernel)) rfl)
theorem cd_X6_fault : Cond.code YX6_fault.1 YX6_fault.2.1 YX6_fault.2.2.1 YX6_fault.2.2.2.1 ∈ jm_tb := (jm_tb_in (List.mem_of_getElem? (i := 886) (by decide +kernel)) rfl)
theorem im_X6_fault : Cond.instanceMethod YX6_fault.1 ∈ jm_tb := (jm_tb_in (List.mem_of_getElem? (i := 884) (by decide +kernel)) rfl)
theorem se_X6_fault : Cond.selects YX6_fault.1.cls YX6_fault.1 YX6_fault.1 ∈ jm_tb := (jm_tb_in (List.mem_of_getElem? (i := 885) (by decide +kernel)) rfl)
theorem cd_X6_isRiver : Cond.code YX6_isRiver.1 YX6_isRiver.2.1 YX6_isRiver.2.2.1 YX6_isRiver.2.2.2.1 ∈ jm_tb := (jm_tb_in (List.mem_of_getElem? (i := 894) (by decide +kernel)) rfl)
theorem im_X6_isRiver : Cond.instanceMethod YX6_isRiver.1 ∈ jm_tb := (jm_tb_in (List.mem_of_getElem? (i := 893) (by decide +kernel)) rfl)
theorem se_X6_isRiver : Cond.selects YX6_isRiver.1.cls YX6_isRiver.1 YX6_isRiver.1 ∈ jm_tb := (jm_tb_in (List.mem_of_getElem? (i := 46) (by decide +kernel)) rfl)
theorem cd_X6_isWord : Cond.code YX6_isWord.1 YX6_isWord.2.1 YX6_isWord.2.2.1 YX6_isWord.2.2.2.1 ∈ jm_tb := (jm_tb_in (List.mem_of_getElem? (i := 928) (by decide +kernel)) rfl)
theorem im_X6_isWord : Cond.instanceMethod YX6_isWord.1 ∈ jm_tb := (jm_tb_in (List.mem_of_getElem? (i := 927) (by decide +kernel)) rfl)
theorem se_X6_isWord : Cond.selects YX6_isWord.1.cls YX6_isWord.1 YX6_isWord.1 ∈ jm_tb := (jm_tb_in (List.mem_of_getElem? (i := 48) (by decide +kernel)) rfl)
theorem cd_X6_isCell : Cond.code YX6_isCell.1 YX6_isCell.2.1 YX6_isCell.2.2.1 YX6_isCell.2.2.2.1 ∈ jm_tb := (jm_tb_in (List.mem_of_getElem? (i := 932) (by decide +kernel)) rfl)
theorem im_X6_isCell : Cond.instanceMethod YX6_isCell.1 ∈ jm_tb := (jm_tb_in (List.mem_of_getElem? (i := 931) (by decide +kernel)) rfl)
theorem se_X6_isCell : Cond.selects YX6_isCell.1.cls YX6_isCell.1 YX6_isCell.1 ∈ jm_tb := (jm_tb_in (List.mem_of_getElem? (i := 49) (by decide +kernel)) rfl)
theorem cd_X6_isGone : Cond.code YX6_isGone.1 YX6_isGone.2.1 YX6_isGone.2.2.1 YX6_isGone.2.2.2.1 ∈ jm_tb := (jm_tb_in (List.mem_of_getElem? (i := 1018) (by decide +kernel)) rfl)
theorem im_X6_isGone : Cond.instanceMethod YX6_isGone.1 ∈ jm_tb := (jm_tb_in (List.mem_of_getElem? (i := 1017) (by decide +kernel)) rfl)
theorem se_X6_isGone : Cond.selects YX6_isGone.1.cls YX6_isGone.1 YX6_isGone.1 ∈ jm_tb := (jm_tb_in (List.mem_of_getElem? (i := 52) (by decide +kernel)) rfl)
theorem cd_X6_pace : Cond.code YX6_pace.1 YX6_pace.2.1 YX6_pace.2.2.1 YX6_pace.2.2.2.1 ∈ jm_tb := (jm_tb_in (List.mem_of_getElem? (i := 911) (by decide +kernel)) rfl)
theorem sm_X6_pace : Cond.static YX6_pace.1 ∈ jm_tb := (jm_tb_in (List.mem_of_getElem? (i := 910) (by decide +kernel)) rfl)
theorem cd_X6_upFrom : Cond.code YX6_upFrom.1 YX6_upFrom.2.1 YX6_upFrom.2.2.1 YX6_upFrom.2.2.2.1 ∈ jm_tb := (jm_tb_in (List.mem_of_getElem? (i := 917) (by decide +kernel)) rfl)
theorem sm_X6_upFrom : Cond.static YX6_upFrom.1 ∈ jm_tb := (jm_tb_in (List.mem_of_getElem? (i := 916) (by decide +kernel)) rfl)
theorem cd_X6_goesTo : Cond.code YX6_goesTo.1 YX6_goesTo.2.1 YX6_goesTo.2.2.1 YX6_goesTo.2.2.2.1 ∈ jm_tb := (jm_tb_in (List.mem_of_getElem? (i := 908) (by decide +kernel)) rfl)
theorem sm_X6_goesTo : Cond.static YX6_goesTo.1 ∈ jm_tb := (jm_tb_in (List.mem_of_getElem? (i := 907) (by decide +kernel)) rfl)
theorem cd_X6_goes : Cond.code YX6_goes.1 YX6_goes.2.1 YX6_goes.2.2.1 YX6_goes.2.2.2.1 ∈ jm_tb := (jm_tb_in (List.mem_of_getElem? (i := 905) (by decide +kernel)) rfl)
theorem sm_X6_goes : Cond.static YX6_goes.1 ∈ jm_tb := (jm_tb_in (List.mem_of_getElem? (i := 904) (by decide +kernel)) rfl)
theorem cd_X6_passes : Cond.code YX6_passes.1 YX6_passes.2.1 YX6_passes.2.2.1 YX6_passes.2.2.2.1 ∈ jm_tb := (jm_tb_in (List.mem_of_getElem? (i := 902) (by decide +kernel)) rfl)
theorem sm_X6_passes : Cond.static YX6_passes.1 ∈ jm_tb := (jm_tb_in (List.mem_of_getElem? (i := 901) (by decide +kernel)) rfl)
theorem cd_X6_goneOf : Cond.code YX6_goneOf.1 YX6_goneOf.2.1 YX6_goneOf.2.2.1 YX6_goneOf.2.2.2.1 ∈ jm_tb := (jm_tb_in (List.mem_of_getElem? (i := 920) (by decide +kernel)) rfl)
theorem sm_X6_goneOf : Cond.static YX6_goneOf.1 ∈ jm_tb := (jm_tb_in (List.mem_of_getElem? (i := 919) (by decide +kernel)) rfl)
theorem cd_X6_sizes : Cond.code YX6_sizes.1 YX6_sizes.2.1 YX6_sizes.2.2.1 YX6_sizes.2.2.2.1 ∈ jm_tb := (jm_tb_in (List.mem_of_getElem? (i := 977) (by decide +kernel)) rfl)
theorem sm_X6_sizes : Cond.static YX6_sizes.1 ∈ jm_tb := (jm_tb_in (List.mem_of_getElem? (i := 976) (by decide +kernel)) rfl)
theorem cd_X6_all : Cond.code YX6_all.1 YX6_all.2.1 YX6_all.2.2.1 YX6_all.2.2.2.1 ∈ jm_tb := (jm_tb_in (List.mem_of_getElem? (i := 988) (by decide +kernel)) rfl)
theorem sm_X6_all : Cond.static YX6_all.1 ∈ jm_tb := (jm_tb_in (List.mem_of_getElem? (i := 987) (by decide +kernel)) rfl)
theorem cd_X6_whereIs : Cond.code YX6_whereIs.1 YX6_whereIs.2.1 YX6_whereIs.2.2.1 YX6_whereIs.2.2.2.1 ∈ jm_tb := (jm_tb_in (List.mem_of_getElem? (i := 954) (by decide +kernel)) rfl)
theorem sm_X6_whereIs : Cond.static YX6_whereIs.1 ∈ jm_tb := (jm_tb_in (List.mem_of_getElem? (i := 953) (by decide +kernel)) rfl)
theorem cd_X6_says : Cond.code YX6_says.1 YX6_says.2.1 YX6_says.2.2.1 YX6_says.2.2.2.1 ∈ jm_tb := (jm_tb_in (List.mem_of_getElem? (i := 935) (by decide +kernel)) rfl)
theorem sm_X6_says : Cond.static YX6_says.1 ∈ jm_tb := (jm_tb_in (List.mem_of_getElem? (i := 934) (by decide +kernel)) rfl)
theorem cd_X6_notes : Cond.code YX6_notes.1 YX6_notes.2.1 YX6_notes.2.2.1 YX6_notes.2.2.2.1 ∈ jm_tb := (jm_tb_in (List.mem_of_getElem? (i := 899) (by decide +kernel)) rfl)
theorem im_X6_notes : Cond.instanceMethod YX6_notes.1 ∈ jm_tb := (jm_tb_in (List.mem_of_getElem? (i := 898) (by decide +kernel)) rfl)
theorem se_X6_notes : Cond.selects YX6_notes.1.cls YX6_notes.1 YX6_notes.1 ∈ jm_tb := (jm_tb_in (List.mem_of_getElem? (i := 47) (by decide +kernel)) rfl)
theorem cd_X6_minutes : Cond.code YX6_minutes.1 YX6_minutes.2.1 YX6_minutes.2.2.1 YX6_minutes.2.2.2.1 ∈ jm_tb := (jm_tb_in (List.mem_of_getElem? (i := 890) (by decide +kernel)) rfl)
theorem im_X6_minutes : Cond.instanceMethod YX6_minutes.1 ∈ jm_tb := (jm_tb_in (List.mem_of_getElem? (i := 888) (by decide +kernel)) rfl)
theorem se_X6_minutes : Cond.selects YX6_minutes.1.cls YX6_minutes.1 YX6_minutes.1 ∈ jm_tb := (jm_tb_in (List.mem_of_getElem? (i := 889) (by decide +kernel)) rfl)
theorem cd_X6_say : Cond.code YX6_say.1 YX6_say.2.1 YX6_say.2.2.1 YX6_say.2.2.2.1 ∈ jm_tb := (jm_tb_in (List.mem_of_getElem? (i := 924) (by decide +kernel)) rfl)
theorem im_X6_say : Cond.instanceMethod YX6_say.1 ∈ jm_tb := (jm_tb_in (List.mem_of_getElem? (i := 922) (by decide +kernel)) rfl)
theorem se_X6_say : Cond.selects YX6_say.1.cls YX6_say.1 YX6_say.1 ∈ jm_tb := (jm_tb_in (List.mem_of_getElem? (i := 923) (by decide +kernel)) rfl)
theorem cd_X6_speed : Cond.code YX6_speed.1 YX6_speed.2.1 YX6_speed.2.2.1 YX6_speed.2.2.2.1 ∈ jm_tb := (jm_tb_in (List.mem_of_getElem? (i := 939) (by decide +kernel)) rfl)
theorem im_X6_speed : Cond.instanceMethod YX6_speed.1 ∈ jm_tb := (jm_tb_in (List.mem_of_getElem? (i := 937) (by decide +kernel)) rfl)
theorem se_X6_speed : Cond.selects YX6_speed.1.cls YX6_speed.1 YX6_speed.1 ∈ jm_tb := (jm_tb_in (List.mem_of_getElem? (i := 938) (by decide +kernel)) rfl)
theorem cd_X6_rain : Cond.code YX6_rain.1 YX6_rain.2.1 YX6_rain.2.2.1 YX6_rain.2.2.2.1 ∈ jm_tb := (jm_tb_in (List.mem_of_getElem? (i := 943) (by decide +kernel)) rfl)
theorem im_X6_rain : Cond.instanceMethod YX6_rain.1 ∈ jm_tb := (jm_tb_in (List.mem_of_getElem? (i := 941) (by decide +kernel)) rfl)
theorem se_X6_rain : Cond.selects YX6_rain.1.cls YX6_rain.1 YX6_rain.1 ∈ jm_tb := (jm_tb_in (List.mem_of_getElem? (i := 942) (by decide +kernel)) rfl)
theorem cd_X6_undo : Cond.code YX6_undo.1 YX6_undo.2.1 YX6_undo.2.2.1 YX6_undo.2.2.2.1 ∈ jm_tb := (jm_tb_in (List.mem_of_getElem? (i := 947) (by decide +kernel)) rfl)
theorem im_X6_undo : Cond.instanceMethod YX6_undo.1 ∈ jm_tb := (jm_tb_in (List.mem_of_getElem? (i := 945) (by decide +kernel)) rfl)
theorem se_X6_undo : Cond.selects YX6_undo.1.cls YX6_undo.1 YX6_undo.1 ∈ jm_tb := (jm_tb_in (List.mem_of_getElem? (i := 946) (by decide +kernel)) rfl)
theorem cd_X6_word : Cond.code YX6_word.1 YX6_word.2.1 YX6_word.2.2.1 YX6_word.2.2.2.1 ∈ jm_tb := (jm_tb_in (List.mem_of_getElem? (i := 951) (by decide +kernel)) rfl)
theorem im_X6_word : Cond.instanceMethod YX6_word.1 ∈ jm_tb := (jm_tb_in (List.mem_of_getElem? (i := 949) (by decide +kernel)) rfl)
theorem se_X6_word : Cond.selects YX6_word.1.cls YX6_word.1 YX6_word.1 ∈ jm_tb := (jm_tb_in (List.mem_of_getElem? (i := 950) (by decide +kernel)) rfl)
theorem cd_X6_wordsIn : Cond.code YX6_wordsIn.1 YX6_wordsIn.2.1 YX6_wordsIn.2.2.1 YX6_wordsIn.2.2.2.1 ∈ jm_tb := (jm_tb_in (List.mem_of_getElem? (i := 962) (by decide +kernel)) rfl)
theorem im_X6_wordsIn : Cond.instanceMethod YX6_wordsIn.1 ∈ jm_tb := (jm_tb_in (List.mem_of_getElem? (i := 961) (by decide +kernel)) rfl)
theorem se_X6_wordsIn : Cond.selects YX6_wordsIn.1.cls YX6_wordsIn.1 YX6_wordsIn.1 ∈ jm_tb := (jm_tb_in (List.mem_of_getElem? (i := 50) (by decide +kernel)) rfl)
theorem cd_X6_cell : Cond.code YX6_cell.1 YX6_cell.2.1 YX6_cell.2.2.1 YX6_cell.2.2.2.1 ∈ jm_tb := (jm_tb_in (List.mem_of_getElem? (i := 958) (by decide +kernel)) rfl)
theorem im_X6_cell : Cond.instanceMethod YX6_cell.1 ∈ jm_tb := (jm_tb_in (List.mem_of_getElem? (i := 956) (by decide +kernel)) rfl)
theorem se_X6_cell : Cond.selects YX6_cell.1.cls YX6_cell.1 YX6_cell.1 ∈ jm_tb := (jm_tb_in (List.mem_of_getElem? (i := 957) (by decide +kernel)) rfl)
theorem cd_X6_goesOn : Cond.code YX6_goesOn.1 YX6_goesOn.2.1 YX6_goesOn.2.2.1 YX6_goesOn.2.2.2.1 ∈ jm_tb := (jm_tb_in (List.mem_of_getElem? (i := 970) (by decide +kernel)) rfl)
theorem im_X6_goesOn : Cond.instanceMethod YX6_goesOn.1 ∈ jm_tb := (jm_tb_in (List.mem_of_getElem? (i := 969) (by decide +kernel)) rfl)
theorem se_X6_goesOn : Cond.selects YX6_goesOn.1.cls YX6_goesOn.1 YX6_goesOn.1 ∈ jm_tb := (jm_tb_in (List.mem_of_getElem? (i := 51) (by decide +kernel)) rfl)
theorem cd_X6_ahead : Cond.code YX6_ahead.1 YX6_ahead.2.1 YX6_ahead.2.2.1 YX6_ahead.2.2.2.1 ∈ jm_tb := (jm_tb_in (List.mem_of_getElem? (i := 966) (by decide +kernel)) rfl)
theorem im_X6_ahead : Cond.instanceMethod YX6_ahead.1 ∈ jm_tb := (jm_tb_in (List.mem_of_getElem? (i := 964) (by decide +kernel)) rfl)
theorem se_X6_ahead : Cond.selects YX6_ahead.1.cls YX6_ahead.1 YX6_ahead.1 ∈ jm_tb := (jm_tb_in (List.mem_of_getElem? (i := 965) (by decide +kernel)) rfl)
theorem cd_X6_quarrel : Cond.code YX6_quarrel.1 YX6_quarrel.2.1 YX6_quarrel.2.2.1 YX6_quarrel.2.2.2.1 ∈ jm_tb := (jm_tb_in (List.mem_of_getElem? (i := 974) (by decide +kernel)) rfl)
theorem im_X6_quarrel : Cond.instanceMethod YX6_quarrel.1 ∈ jm_tb := (jm_tb_in (List.mem_of_getElem? (i := 972) (by decide +kernel)) rfl)
theorem se_X6_quarrel : Cond.selects YX6_quarrel.1.cls YX6_quarrel.1 YX6_quarrel.1 ∈ jm_tb := (jm_tb_in (List.mem_of_getElem? (i := 973) (by decide +kernel)) rfl)
theorem cd_X6_over : Cond.code YX6_over.1 YX6_over.2.1 YX6_over.2.2.1 YX6_over.2.2.2.1 ∈ jm_tb := (jm_tb_in (List.mem_of_getElem? (i := 981) (by decide +kernel)) rfl)
theorem im_X6_over : Cond.instanceMethod YX6_over.1 ∈ jm_tb := (jm_tb_in (List.mem_of_getElem? (i := 979) (by decide +kernel)) rfl)
theorem se_X6_over : Cond.selects YX6_over.1.cls YX6_over.1 YX6_over.1 ∈ jm_tb := (jm_tb_in (List.mem_of_getElem? (i := 980) (by decide +kernel)) rfl)
theorem cd_X6_kept : Cond.code YX6_kept.1 YX6_kept.2.1 YX6_kept.2.2.1 YX6_kept.2.2.2.1 ∈ jm_tb := (jm_tb_in (List.mem_of_getElem? (i := 985) (by decide +kernel)) rfl)
theorem im_X6_kept : Cond.instanceMethod YX6_kept.1 ∈ jm_tb := (jm_tb_in (List.mem_of_getElem? (i := 983) (by decide +kernel)) rfl)
theorem se_X6_kept : Cond.selects YX6_kept.1.cls YX6_kept.1 YX6_kept.1 ∈ jm_tb := (jm_tb_in (List.mem_of_getElem? (i := 984) (by decide +kernel)) rfl)
theorem cd_X6_isNear : Cond.code YX6_isNear.1 YX6_isNear.2.1 YX6_isNear.2.2.1 YX6_isNear.2.2.2.1 ∈ jm_tb := (jm_tb_in (List.mem_of_getElem? (i := 995) (by decide +kernel)) rfl)
theorem sm_X6_isNear : Cond.static YX6_isNear.1 ∈ jm_tb := (jm_tb_in (List.mem_of_getElem? (i := 994) (by decide +kernel)) rfl)
theorem cd_X6_calm : Cond.code YX6_calm.1 YX6_calm.2.1 YX6_calm.2.2.1 YX6_calm.2.2.2.1 ∈ jm_tb := (jm_tb_in (List.mem_of_getElem? (i := 992) (by decide +kernel)) rfl)
theorem im_X6_calm : Cond.instanceMethod YX6_calm.1 ∈ jm_tb := (jm_tb_in (List.mem_of_getElem? (i := 990) (by decide +kernel)) rfl)
theorem se_X6_calm : Cond.selects YX6_calm.1.cls YX6_calm.1 YX6_calm.1 ∈ jm_tb := (jm_tb_in (List.mem_of_getElem? (i := 991) (by decide +kernel)) rfl)
theorem cd_X6_swift : Cond.code YX6_swift.1 YX6_swift.2.1 YX6_swift.2.2.1 YX6_swift.2.2.2.1 ∈ jm_tb := (jm_tb_in (List.mem_of_getElem? (i := 999) (by decide +kernel)) rfl)
theorem im_X6_swift : Cond.instanceMethod YX6_swift.1 ∈ jm_tb := (jm_tb_in (List.mem_of_getElem? (i := 997) (by decide +kernel)) rfl)
theorem se_X6_swift : Cond.selects YX6_swift.1.cls YX6_swift.1 YX6_swift.1 ∈ jm_tb := (jm_tb_in (List.mem_of_getElem? (i := 998) (by decide +kernel)) rfl)
theorem cd_X6_stir : Cond.code YX6_stir.1 YX6_stir.2.1 YX6_stir.2.2.1 YX6_stir.2.2.2.1 ∈ jm_tb := (jm_tb_in (List.mem_of_getElem? (i := 1006) (by decide +kernel)) rfl)
theorem im_X6_stir : Cond.instanceMethod YX6_stir.1 ∈ jm_tb := (jm_tb_in (List.mem_of_getElem? (i := 1004) (by decide +kernel)) rfl)
theorem se_X6_stir : Cond.selects YX6_stir.1.cls YX6_stir.1 YX6_stir.1 ∈ jm_tb := (jm_tb_in (List.mem_of_getElem? (i := 1005) (by decide +kernel)) rfl)
theorem cd_X6_share : Cond.code YX6_share.1 YX6_share.2.1 YX6_share.2.2.1 YX6_share.2.2.2.1 ∈ jm_tb := (jm_tb_in (List.mem_of_getElem? (i := 1010) (by decide +kernel)) rfl)
theorem im_X6_share : Cond.instanceMethod YX6_share.1 ∈ jm_tb := (jm_tb_in (List.mem_of_getElem? (i := 1008) (by decide +kernel)) rfl)
theorem se_X6_share : Cond.selects YX6_share.1.cls YX6_share.1 YX6_share.1 ∈ jm_tb := (jm_tb_in (List.mem_of_getElem? (i := 1009) (by decide +kernel)) rfl)
theorem cd_X6_isSeen : Cond.code YX6_isSeen.1 YX6_isSeen.2.1 YX6_isSeen.2.2.1 YX6_isSeen.2.2.2.1 ∈ jm_tb := (jm_tb_in (List.mem_of_getElem? (i := 1022) (by decide +kernel)) rfl)
theorem im_X6_isSeen : Cond.instanceMethod YX6_isSeen.1 ∈ jm_tb := (jm_tb_in (List.mem_of_getElem? (i := 1021) (by decide +kernel)) rfl)
theorem se_X6_isSeen : Cond.selects YX6_isSeen.1.cls YX6_isSeen.1 YX6_isSeen.1 ∈ jm_tb := (jm_tb_in (List.mem_of_getElem? (i := 53) (by decide +kernel)) rfl)
theorem cd_X6_fits : Cond.code YX6_fits.1 YX6_fits.2.1 YX6_fits.2.2.1 YX6_fits.2.2.2.1 ∈ jm_tb := (jm_tb_in (List.mem_of_getElem? (i := 1014) (by decide +kernel)) rfl)
theorem im_X6_fits : Cond.instanceMethod YX6_fits.1 ∈ jm_tb := (jm_tb_in (List.mem_of_getElem? (i := 1012) (by decide +kernel)) rfl)
theorem se_X6_fits : Cond.selects YX6_fits.1.cls YX6_fits.1 YX6_fits.1 ∈ jm_tb := (jm_tb_in (List.mem_of_getElem? (i := 1013) (by decide +kernel)) rfl)
theorem cd_X6_chance : Cond.code YX6_chance.1 YX6_chance.2.1 YX6_chance.2.2.1 YX6_chance.2.2.2.1 ∈ jm_tb := (jm_tb_in (List.mem_of_getElem? (i := 1026) (by decide +kernel)) rfl)
theorem im_X6_chance : Cond.instanceMethod YX6_chance.1 ∈ jm_tb := (jm_tb_in (List.mem_of_getElem? (i := 1024) (by decide +kernel)) rfl)
theorem se_X6_chance : Cond.selects YX6_chance.1.cls YX6_chance.1 YX6_chance.1 ∈ jm_tb := (jm_tb_in (List.mem_of_getElem? (i := 1025) (by decide +kernel)) rfl)
theorem cd_X6_drawn : Cond.code YX6_drawn.1 YX6_drawn.2.1 YX6_drawn.2.2.1 YX6_drawn.2.2.2.1 ∈ jm_tb := (jm_tb_in (List.mem_of_getElem? (i := 1030) (by decide +kernel)) rfl)
theorem im_X6_drawn : Cond.instanceMethod YX6_drawn.1 ∈ jm_tb := (jm_tb_in (List.mem_of_getElem? (i := 1028) (by decide +kernel)) rfl)
theorem se_X6_drawn : Cond.selects YX6_drawn.1.cls YX6_drawn.1 YX6_drawn.1 ∈ jm_tb := (jm_tb_in (List.mem_of_getElem? (i := 1029) (by decide +kernel)) rfl)
theorem cd_X6_image : Cond.code YX6_image.1 YX6_image.2.1 YX6_image.2.2.1 YX6_image.2.2.2.1 ∈ jm_tb := (jm_tb_in (List.mem_of_getElem? (i := 1039) (by decide +kernel)) rfl)
theorem im_X6_image : Cond.instanceMethod YX6_image.1 ∈ jm_tb := (jm_tb_in (List.mem_of_getElem? (i := 1037) (by decide +kernel)) rfl)
theorem se_X6_image : Cond.selects YX6_image.1.cls YX6_image.1 YX6_image.1 ∈ jm_tb := (jm_tb_in (List.mem_of_getElem? (i := 1038) (by decide +kernel)) rfl)
theorem cd_X6_restore : Cond.code YX6_restore.1 YX6_restore.2.1 YX6_restore.2.2.1 YX6_restore.2.2.2.1 ∈ jm_tb := (jm_tb_in (List.mem_of_getElem? (i := 1043) (by decide +kernel)) rfl)
theorem im_X6_restore : Cond.instanceMethod YX6_restore.1 ∈ jm_tb := (jm_tb_in (List.mem_of_getElem? (i := 1041) (by decide +kernel)) rfl)
theorem se_X6_restore : Cond.selects YX6_restore.1.cls YX6_restore.1 YX6_restore.1 ∈ jm_tb := (jm_tb_in (List.mem_of_getElem? (i := 1042) (by decide +kernel)) rfl)
theorem cd_X6_kindIn : Cond.code YX6_kindIn.1 YX6_kindIn.2.1 YX6_kindIn.2.2.1 YX6_kindIn.2.2.2.1 ∈ jm_tb := (jm_tb_in (List.mem_of_getElem? (i := 1051) (by decide +kernel)) rfl)
theorem im_X6_kindIn : Cond.instanceMethod YX6_kindIn.1 ∈ jm_tb := (jm_tb_in (List.mem_of_getElem? (i := 1050) (by decide +kernel)) rfl)
theorem se_X6_kindIn : Cond.selects YX6_kindIn.1.cls YX6_kindIn.1 YX6_kindIn.1 ∈ jm_tb := (jm_tb_in (List.mem_of_getElem? (i := 54) (by decide +kernel)) rfl)
theorem cd_X6_kind : Cond.code YX6_kind.1 YX6_kind.2.1 YX6_kind.2.2.1 YX6_kind.2.2.2.1 ∈ jm_tb := (jm_tb_in (List.mem_of_getElem? (i := 1047) (by decide +kernel)) rfl)
theorem im_X6_kind : Cond.instanceMethod YX6_kind.1 ∈ jm_tb := (jm_tb_in (List.mem_of_getElem? (i := 1045) (by decide +kernel)) rfl)
theorem se_X6_kind : Cond.selects YX6_kind.1.cls YX6_kind.1 YX6_kind.1 ∈ jm_tb := (jm_tb_in (List.mem_of_getElem? (i := 1046) (by decide +kernel)) rfl)
theorem cd_X6_as : Cond.code YX6_as.1 YX6_as.2.1 YX6_as.2.2.1 YX6_as.2.2.2.1 ∈ jm_tb := (jm_tb_in (List.mem_of_getElem? (i := 1055) (by decide +kernel)) rfl)
theorem im_X6_as : Cond.instanceMethod YX6_as.1 ∈ jm_tb := (jm_tb_in (List.mem_of_getElem? (i := 1053) (by decide +kernel)) rfl)
theorem se_X6_as : Cond.selects YX6_as.1.cls YX6_as.1 YX6_as.1 ∈ jm_tb := (jm_tb_in (List.mem_of_getElem? (i := 1054) (by decide +kernel)) rfl)
theorem cd_X6_begins : Cond.code YX6_begins.1 YX6_begins.2.1 YX6_begins.2.2.1 YX6_begins.2.2.2.1 ∈ jm_tb := (jm_tb_in (List.mem_of_getElem? (i := 1067) (by decide +kernel)) rfl)
theorem im_X6_begins : Cond.instanceMethod YX6_begins.1 ∈ jm_tb := (jm_tb_in (List.mem_of_getElem? (i := 1066) (by decide +kernel)) rfl)
theorem se_X6_begins : Cond.selects YX6_begins.1.cls YX6_begins.1 YX6_begins.1 ∈ jm_tb := (jm_tb_in (List.mem_of_getElem? (i := 56) (by decide +kernel)) rfl)
theorem cd_X6_stickMark : Cond.code YX6_stickMark.1 YX6_stickMark.2.1 YX6_stickMark.2.2.1 YX6_stickMark.2.2.2.1 ∈ jm_tb := (jm_tb_in (List.mem_of_getElem? (i := 1075) (by decide +kernel)) rfl)
theorem im_X6_stickMark : Cond.instanceMethod YX6_stickMark.1 ∈ jm_tb := (jm_tb_in (List.mem_of_getElem? (i := 1074) (by decide +kernel)) rfl)
theorem se_X6_stickMark : Cond.selects YX6_stickMark.1.cls YX6_stickMark.1 YX6_stickMark.1 ∈ jm_tb := (jm_tb_in (List.mem_of_getElem? (i := 58) (by decide +kernel)) rfl)
theorem cd_X6_salmonSize : Cond.code YX6_salmonSize.1 YX6_salmonSize.2.1 YX6_salmonSize.2.2.1 YX6_salmonSize.2.2.2.1 ∈ jm_tb := (jm_tb_in (List.mem_of_getElem? (i := 1063) (by decide +kernel)) rfl)
theorem im_X6_salmonSize : Cond.instanceMethod YX6_salmonSize.1 ∈ jm_tb := (jm_tb_in (List.mem_of_getElem? (i := 1062) (by decide +kernel)) rfl)
theorem se_X6_salmonSize : Cond.selects YX6_salmonSize.1.cls YX6_salmonSize.1 YX6_salmonSize.1 ∈ jm_tb := (jm_tb_in (List.mem_of_getElem? (i := 55) (by decide +kernel)) rfl)
theorem cd_X6_stickSize : Cond.code YX6_stickSize.1 YX6_stickSize.2.1 YX6_stickSize.2.2.1 YX6_stickSize.2.2.2.1 ∈ jm_tb := (jm_tb_in (List.mem_of_getElem? (i := 1071) (by decide +kernel)) rfl)
theorem im_X6_stickSize : Cond.instanceMethod YX6_stickSize.1 ∈ jm_tb := (jm_tb_in (List.mem_of_getElem? (i := 1070) (by decide +kernel)) rfl)
theorem se_X6_stickSize : Cond.selects YX6_stickSize.1.cls YX6_stickSize.1 YX6_stickSize.1 ∈ jm_tb := (jm_tb_in (List.mem_of_getElem? (i := 57) (by decide +kernel)) rfl)
theorem cd_X6_salmonMark : Cond.code YX6_salmonMark.1 YX6_salmonMark.2.1 YX6_salmonMark.2.2.1 YX6_salmonMark.2.2.2.1 ∈ jm_tb := (jm_tb_in (List.mem_of_getElem? (i := 1079) (by decide +kernel)) rfl)
theorem im_X6_salmonMark : Cond.instanceMethod YX6_salmonMark.1 ∈ jm_tb := (jm_tb_in (List.mem_of_getElem? (i := 1078) (by decide +kernel)) rfl)
theorem se_X6_salmonMark : Cond.selects YX6_salmonMark.1.cls YX6_salmonMark.1 YX6_salmonMark.1 ∈ jm_tb := (jm_tb_in (List.mem_of_getElem? (i := 59) (by decide +kernel)) rfl)
theorem cd_X6_ask : Cond.code YX6_ask.1 YX6_ask.2.1 YX6_ask.2.2.1 YX6_ask.2.2.2.1 ∈ jm_tb := (jm_tb_in (List.mem_of_getElem? (i := 1059) (by decide +kernel)) rfl)
theorem im_X6_ask : Cond.instanceMethod YX6_ask.1 ∈ jm_tb := (jm_tb_in (List.mem_of_getElem? (i := 1057) (by decide +kernel)) rfl)
theorem se_X6_ask : Cond.selects YX6_ask.1.cls YX6_ask.1 YX6_ask.1 ∈ jm_tb := (jm_tb_in (List.mem_of_getElem? (i := 1058) (by decide +kernel)) rfl)
theorem cd_X6_trace : Cond.code YX6_trace.1 YX6_trace.2.1 YX6_trace.2.2.1 YX6_trace.2.2.2.1 ∈ jm_tb := (jm_tb_in (List.mem_of_getElem? (i := 1083) (by decide +kernel)) rfl)
theorem im_X6_trace : Cond.instanceMethod YX6_trace.1 ∈ jm_tb := (jm_tb_in (List.mem_of_getElem? (i := 1081) (by decide +kernel)) rfl)
theorem se_X6_trace : Cond.selects YX6_trace.1.cls YX6_trace.1 YX6_trace.1 ∈ jm_tb := (jm_tb_in (List.mem_of_getElem? (i := 1082) (by decide +kernel)) rfl)
theorem cd_X6_count : Cond.code YX6_count.1 YX6_count.2.1 YX6_count.2.2.1 YX6_count.2.2.2.1 ∈ jm_tb := (jm_tb_in (List.mem_of_getElem? (i := 1087) (by decide +kernel)) rfl)
theorem im_X6_count : Cond.instanceMethod YX6_count.1 ∈ jm_tb := (jm_tb_in (List.mem_of_getElem? (i := 1085) (by decide +kernel)) rfl)
theorem se_X6_count : Cond.selects YX6_count.1.cls YX6_count.1 YX6_count.1 ∈ jm_tb := (jm_tb_in (List.mem_of_getElem? (i := 1086) (by decide +kernel)) rfl)
theorem cd_X6_status : Cond.code YX6_status.1 YX6_status.2.1 YX6_status.2.2.1 YX6_status.2.2.2.1 ∈ jm_tb := (jm_tb_in (List.mem_of_getElem? (i := 1091) (by decide +kernel)) rfl)
theorem im_X6_status : Cond.instanceMethod YX6_status.1 ∈ jm_tb := (jm_tb_in (List.mem_of_getElem? (i := 1089) (by decide +kernel)) rfl)
theorem se_X6_status : Cond.selects YX6_status.1.cls YX6_status.1 YX6_status.1 ∈ jm_tb := (jm_tb_in (List.mem_of_getElem? (i := 1090) (by decide +kernel)) rfl)
theorem cd_J6_bitCount_0f7a4 : Cond.code YJ6_bitCount_0f7a4.1 YJ6_bitCount_0f7a4.2.1 YJ6_bitCount_0f7a4.2.2.1 YJ6_bitCount_0f7a4.2.2.2.1 ∈ jm_tb := (jm_tb_in (List.mem_of_getElem? (i := 543) (by decide +kernel)) rfl)
theorem sm_J6_bitCount_0f7a4 : Cond.static YJ6_bitCount_0f7a4.1 ∈ jm_tb := (jm_tb_in (List.mem_of_getElem? (i := 542) (by decide +kernel)) rfl)
theorem cd_J9_min_7cf53 : Cond.code YJ9_min_7cf53.1 YJ9_min_7cf53.2.1 YJ9_min_7cf53.2.2.1 YJ9_min_7cf53.2.2.2.1 ∈ jm_tb := (jm_tb_in (List.mem_of_getElem? (i := 401) (by decide +kernel)) rfl)
theorem sm_J9_min_7cf53 : Cond.static YJ9_min_7cf53.1 ∈ jm_tb := (jm_tb_in (List.mem_of_getElem? (i := 400) (by decide +kernel)) rfl)
theorem cd_J7_fill_53178 : Cond.code YJ7_fill_53178.1 YJ7_fill_53178.2.1 YJ7_fill_53178.2.2.1 YJ7_fill_53178.2.2.2.1 ∈ jm_tb := (jm_tb_in (List.mem_of_getElem? (i := 90) (by decide +kernel)) rfl)
theorem sm_J7_fill_53178 : Cond.static YJ7_fill_53178.1 ∈ jm_tb := (jm_tb_in (List.mem_of_getElem? (i := 89) (by decide +kernel)) rfl)
theorem lk_RX3_21 : jm_LS RX3 21 YJ7_fill_53178 2 := ⟨⟨(jm_tb_in (List.mem_of_getElem? (i := 88) (by decide +kernel)) rfl), ini_RJ7, cd_J7_fill_53178, by decide +kernel, ⟨by decide +kernel, by decide +kernel⟩, by decide +kernel⟩, sm_J7_fill_53178⟩
theorem lk_RL_13 : jm_LV RL 13 YX5_row 3 4 := ⟨⟨(jm_tb_in (List.mem_of_getElem? (i := 231) (by decide +kernel)) rfl), ini_RX5, cd_X5_row, by decide +kernel, ⟨by decide +kernel, by decide +kernel⟩, by decide +kernel⟩, im_X5_row, se_X5_row, rfl⟩
theorem lk_RX5_57 : jm_LS RX5 57 YX3_isRow 1 := ⟨⟨(jm_tb_in (List.mem_of_getElem? (i := 235) (by decide +kernel)) rfl), ini_RX3, cd_X3_isRow, by decide +kernel, ⟨by decide +kernel, by decide +kernel⟩, by decide +kernel⟩, sm_X3_isRow⟩
theorem lk_RX5_61 : jm_LS RX5 61 YX3_isLane 1 := ⟨⟨(jm_tb_in (List.mem_of_getElem? (i := 238) (by decide +kernel)) rfl), ini_RX3, cd_X3_isLane, by decide +kernel, ⟨by decide +kernel, by decide +kernel⟩, by decide +kernel⟩, sm_X3_isLane⟩
theorem lk_RX5_65 : jm_LV RX5 65 YX5_finding 1 4 := ⟨⟨(jm_tb_in (List.mem_of_getElem? (i := 242) (by decide +kernel)) rfl), ini_RX5, cd_X5_finding, by decide +kernel, ⟨by decide +kernel, by decide +kernel⟩, by decide +kernel⟩, im_X5_finding, se_X5_finding, rfl⟩
theorem lk_RX5_69 : jm_LV RX5 69 YX3_lay 3 2 := ⟨⟨(jm_tb_in (List.mem_of_getElem? (i := 247) (by decide +kernel)) rfl), ini_RX3, cd_X3_lay, by decide +kernel, ⟨by decide +kernel, by decide +kernel⟩, by decide +kernel⟩, im_X3_lay, se_X3_lay, rfl⟩
theorem lk_RX5_73 : jm_LV RX5 73 YX5_unfound 1 4 := ⟨⟨(jm_tb_in (List.mem_of_getElem? (i := 251) (by decide +kernel)) rfl), ini_RX5, cd_X5_unfound, by decide +kernel, ⟨by decide +kernel, by decide +kernel⟩, by decide +kernel⟩, im_X5_unfound, se_X5_unfound, rfl⟩
theorem lk_RL_18 : jm_LV RL 18 YX5_set 3 4 := ⟨⟨(jm_tb_in (List.mem_of_getElem? (i := 255) (by decide +kernel)) rfl), ini_RX5, cd_X5_set, by decide +kernel, ⟨by decide +kernel, by decide +kernel⟩, by decide +kernel⟩, im_X5_set, se_X5_set, rfl⟩
theorem lk_RX5_76 : jm_LV RX5 76 YX3_isMissing 1 2 := ⟨⟨(jm_tb_in (List.mem_of_getElem? (i := 259) (by decide +kernel)) rfl), ini_RX3, cd_X3_isMissing, by decide +kernel, ⟨by decide +kernel, by decide +kernel⟩, by decide +kernel⟩, im_X3_isMissing, se_X3_isMissing, rfl⟩
theorem lk_RX5_79 : jm_LV RX5 79 YX3_hasPlaces 3 2 := ⟨⟨(jm_tb_in (List.mem_of_getElem? (i := 263) (by decide +kernel)) rfl), ini_RX3, cd_X3_hasPlaces, by decide +kernel, ⟨by decide +kernel, by decide +kernel⟩, by decide +kernel⟩, im_X3_hasPlaces, se_X3_hasPlaces, rfl⟩
theorem lk_RX5_83 : jm_LV RX5 83 YX3_put 3 2 := ⟨⟨(jm_tb_in (List.mem_of_getElem? (i := 267) (by decide +kernel)) rfl), ini_RX3, cd_X3_put, by decide +kernel, ⟨by decide +kernel, by decide +kernel⟩, by decide +kernel⟩, im_X3_put, se_X3_put, rfl⟩
theorem lk_RL_22 : jm_LV RL 22 YX5_copy 5 4 := ⟨⟨(jm_tb_in (List.mem_of_getElem? (i := 271) (by decide +kernel)) rfl), ini_RX5, cd_X5_copy, by decide +kernel, ⟨by decide +kernel, by decide +kernel⟩, by decide +kernel⟩, im_X5_copy, se_X5_copy, rfl⟩
theorem lk_RX5_87 : jm_LV RX5 87 YX3_haveOneLane 2 2 := ⟨⟨(jm_tb_in (List.mem_of_getElem? (i := 275) (by decide +kernel)) rfl), ini_RX3, cd_X3_haveOneLane, by decide +kernel, ⟨by decide +kernel, by decide +kernel⟩, by decide +kernel⟩, im_X3_haveOneLane, se_X3_haveOneLane, rfl⟩
theorem lk_RX5_91 : jm_LV RX5 91 YX3_carry 5 2 := ⟨⟨(jm_tb_in (List.mem_of_getElem? (i := 279) (by decide +kernel)) rfl), ini_RX3, cd_X3_carry, by decide +kernel, ⟨by decide +kernel, by decide +kernel⟩, by decide +kernel⟩, im_X3_carry, se_X3_carry, rfl⟩
theorem acl_RX3_27 : Cond.methodLink RX3 27 arraycopyName ∈ jm_tb := (jm_tb_in (List.mem_of_getElem? (i := 283) (by decide +kernel)) rfl)
theorem lk_RL_27 : jm_LV RL 27 YX5_drop 1 4 := ⟨⟨(jm_tb_in (List.mem_of_getElem? (i := 286) (by decide +kernel)) rfl), ini_RX5, cd_X5_drop, by decide +kernel, ⟨by decide +kernel, by decide +kernel⟩, by decide +kernel⟩, im_X5_drop, se_X5_drop, rfl⟩
theorem lk_RX5_95 : jm_LV RX5 95 YX3_lose 1 2 := ⟨⟨(jm_tb_in (List.mem_of_getElem? (i := 290) (by decide +kernel)) rfl), ini_RX3, cd_X3_lose, by decide +kernel, ⟨by decide +kernel, by decide +kernel⟩, by decide +kernel⟩, im_X3_lose, se_X3_lose, rfl⟩
theorem lk_RL_32 : jm_LV RL 32 YX5_feed 1 4 := ⟨⟨(jm_tb_in (List.mem_of_getElem? (i := 294) (by decide +kernel)) rfl), ini_RX5, cd_X5_feed, by decide +kernel, ⟨by decide +kernel, by decide +kernel⟩, by decide +kernel⟩, im_X5_feed, se_X5_feed, rfl⟩
theorem lk_RX5_98 : jm_LS RX5 98 YX5_isWithin 3 := ⟨⟨(jm_tb_in (List.mem_of_getElem? (i := 298) (by decide +kernel)) rfl), ini_RX5, cd_X5_isWithin, by decide +kernel, ⟨by decide +kernel, by decide +kernel⟩, by decide +kernel⟩, sm_X5_isWithin⟩
theorem lk_RX5_101 : jm_LV RX5 101 YX4_isFull 0 3 := ⟨⟨(jm_tb_in (List.mem_of_getElem? (i := 301) (by decide +kernel)) rfl), ini_RX4, cd_X4_isFull, by decide +kernel, ⟨by decide +kernel, by decide +kernel⟩, by decide +kernel⟩, im_X4_isFull, se_X4_isFull, rfl⟩
theorem lk_RX5_106 : jm_LV RX5 106 YX4_take 1 3 := ⟨⟨(jm_tb_in (List.mem_of_getElem? (i := 306) (by decide +kernel)) rfl), ini_RX4, cd_X4_take, by decide +kernel, ⟨by decide +kernel, by decide +kernel⟩, by decide +kernel⟩, im_X4_take, se_X4_take, rfl⟩
theorem lk_RL_36 : jm_LV RL 36 YX5_river 0 4 := ⟨⟨(jm_tb_in (List.mem_of_getElem? (i := 310) (by decide +kernel)) rfl), ini_RX5, cd_X5_river, by decide +kernel, ⟨by decide +kernel, by decide +kernel⟩, by decide +kernel⟩, im_X5_river, se_X5_river, rfl⟩
theorem lk_RX5_109 : jm_LV RX5 109 YX4_readInto 1 3 := ⟨⟨(jm_tb_in (List.mem_of_getElem? (i := 314) (by decide +kernel)) rfl), ini_RX4, cd_X4_readInto, by decide +kernel, ⟨by decide +kernel, by decide +kernel⟩, by decide +kernel⟩, im_X4_readInto, se_X4_readInto, rfl⟩
theorem lk_RX4_23 : jm_LV RX4 23 YX2_empty 0 1 := ⟨⟨(jm_tb_in (List.mem_of_getElem? (i := 318) (by decide +kernel)) rfl), ini_RX2, cd_X2_empty, by decide +kernel, ⟨by decide +kernel, by decide +kernel⟩, by decide +kernel⟩, im_X2_empty, se_X2_empty, rfl⟩
theorem lk_RX4_28 : jm_LV RX4 28 YX4_readLaw 1 3 := ⟨⟨(jm_tb_in (List.mem_of_getElem? (i := 322) (by decide +kernel)) rfl), ini_RX4, cd_X4_readLaw, by decide +kernel, ⟨by decide +kernel, by decide +kernel⟩, by decide +kernel⟩, im_X4_readLaw, se_X4_readLaw, rfl⟩
theorem lk_RX4_38 : jm_LV RX4 38 YX4_passes 1 3 := ⟨⟨(jm_tb_in (List.mem_of_getElem? (i := 326) (by decide +kernel)) rfl), ini_RX4, cd_X4_passes, by decide +kernel, ⟨by decide +kernel, by decide +kernel⟩, by decide +kernel⟩, im_X4_passes, se_X4_passes, rfl⟩
theorem lk_RX4_52 : jm_LV RX4 52 YX4_isAt 1 3 := ⟨⟨(jm_tb_in (List.mem_of_getElem? (i := 330) (by decide +kernel)) rfl), ini_RX4, cd_X4_isAt, by decide +kernel, ⟨by decide +kernel, by decide +kernel⟩, by decide +kernel⟩, im_X4_isAt, se_X4_isAt, rfl⟩
theorem lk_RX4_58 : jm_LV RX4 58 YX4_faulty 1 3 := ⟨⟨(jm_tb_in (List.mem_of_getElem? (i := 334) (by decide +kernel)) rfl), ini_RX4, cd_X4_faulty, by decide +kernel, ⟨by decide +kernel, by decide +kernel⟩, by decide +kernel⟩, im_X4_faulty, se_X4_faulty, rfl⟩
theorem lk_RX4_42 : jm_LV RX4 42 YX4_readNumber 2 3 := ⟨⟨(jm_tb_in (List.mem_of_getElem? (i := 338) (by decide +kernel)) rfl), ini_RX4, cd_X4_readNumber, by decide +kernel, ⟨by decide +kernel, by decide +kernel⟩, by decide +kernel⟩, im_X4_readNumber, se_X4_readNumber, rfl⟩
theorem lk_RX4_89 : jm_LV RX4 89 YX4_figuresFrom 1 3 := ⟨⟨(jm_tb_in (List.mem_of_getElem? (i := 342) (by decide +kernel)) rfl), ini_RX4, cd_X4_figuresFrom, by decide +kernel, ⟨by decide +kernel, by decide +kernel⟩, by decide +kernel⟩, im_X4_figuresFrom, se_X4_figuresFrom, rfl⟩
theorem lk_RX4_32 : jm_LV RX4 32 YX4_readCells 1 3 := ⟨⟨(jm_tb_in (List.mem_of_getElem? (i := 346) (by decide +kernel)) rfl), ini_RX4, cd_X4_readCells, by decide +kernel, ⟨by decide +kernel, by decide +kernel⟩, by decide +kernel⟩, im_X4_readCells, se_X4_readCells, rfl⟩
theorem lk_RX4_55 : jm_LV RX4 55 YX4_readCell 1 3 := ⟨⟨(jm_tb_in (List.mem_of_getElem? (i := 350) (by decide +kernel)) rfl), ini_RX4, cd_X4_readCell, by decide +kernel, ⟨by decide +kernel, by decide +kernel⟩, by decide +kernel⟩, im_X4_readCell, se_X4_readCell, rfl⟩
theorem lk_RX4_35 : jm_LV RX4 35 YX4_readWords 1 3 := ⟨⟨(jm_tb_in (List.mem_of_getElem? (i := 354) (by decide +kernel)) rfl), ini_RX4, cd_X4_readWords, by decide +kernel, ⟨by decide +kernel, by decide +kernel⟩, by decide +kernel⟩, im_X4_readWords, se_X4_readWords, rfl⟩
theorem lk_RX4_68 : jm_LV RX4 68 YX4_readWord 1 3 := ⟨⟨(jm_tb_in (List.mem_of_getElem? (i := 358) (by decide +kernel)) rfl), ini_RX4, cd_X4_readWord, by decide +kernel, ⟨by decide +kernel, by decide +kernel⟩, by decide +kernel⟩, im_X4_readWord, se_X4_readWord, rfl⟩
theorem lk_RX4_71 : jm_LS RX4 71 YX1_byLetter 1 := ⟨⟨(jm_tb_in (List.mem_of_getElem? (i := 362) (by decide +kernel)) rfl), ini_RX1, cd_X1_byLetter, by decide +kernel, ⟨by decide +kernel, by decide +kernel⟩, by decide +kernel⟩, sm_X1_byLetter⟩
theorem lk_RX4_86 : jm_LS RX4 86 YX2_packed 2 := ⟨⟨(jm_tb_in (List.mem_of_getElem? (i := 365) (by decide +kernel)) rfl), ini_RX2, cd_X2_packed, by decide +kernel, ⟨by decide +kernel, by decide +kernel⟩, by decide +kernel⟩, sm_X2_packed⟩
theorem lk_RX5_113 : jm_LV RX5 113 YX4_wipe 0 3 := ⟨⟨(jm_tb_in (List.mem_of_getElem? (i := 368) (by decide +kernel)) rfl), ini_RX4, cd_X4_wipe, by decide +kernel, ⟨by decide +kernel, by decide +kernel⟩, by decide +kernel⟩, im_X4_wipe, se_X4_wipe, rfl⟩
theorem lk_RX5_120 : jm_LV RX5 120 YX2_become 1 1 := ⟨⟨(jm_tb_in (List.mem_of_getElem? (i := 373) (by decide +kernel)) rfl), ini_RX2, cd_X2_become, by decide +kernel, ⟨by decide +kernel, by decide +kernel⟩, by decide +kernel⟩, im_X2_become, se_X2_become, rfl⟩
theorem acl_RX2_41 : Cond.methodLink RX2 41 arraycopyName ∈ jm_tb := (jm_tb_in (List.mem_of_getElem? (i := 377) (by decide +kernel)) rfl)
theorem lk_RX5_124 : jm_LV RX5 124 YX5_forgetActs 0 4 := ⟨⟨(jm_tb_in (List.mem_of_getElem? (i := 378) (by decide +kernel)) rfl), ini_RX5, cd_X5_forgetActs, by decide +kernel, ⟨by decide +kernel, by decide +kernel⟩, by decide +kernel⟩, im_X5_forgetActs, se_X5_forgetActs, rfl⟩
theorem lk_RL_41 : jm_LV RL 41 YX5_fault 0 4 := ⟨⟨(jm_tb_in (List.mem_of_getElem? (i := 382) (by decide +kernel)) rfl), ini_RX5, cd_X5_fault, by decide +kernel, ⟨by decide +kernel, by decide +kernel⟩, by decide +kernel⟩, im_X5_fault, se_X5_fault, rfl⟩
theorem lk_RL_45 : jm_LV RL 45 YX5_minutes 1 4 := ⟨⟨(jm_tb_in (List.mem_of_getElem? (i := 386) (by decide +kernel)) rfl), ini_RX5, cd_X5_minutes, by decide +kernel, ⟨by decide +kernel, by decide +kernel⟩, by decide +kernel⟩, im_X5_minutes, se_X5_minutes, rfl⟩
theorem lk_RX5_133 : jm_LV RX5 133 YX5_hasRiver 0 4 := ⟨⟨(jm_tb_in (List.mem_of_getElem? (i := 390) (by decide +kernel)) rfl), ini_RX5, cd_X5_hasRiver, by decide +kernel, ⟨by decide +kernel, by decide +kernel⟩, by decide +kernel⟩, im_X5_hasRiver, se_X5_hasRiver, rfl⟩
theorem lk_RX5_140 : jm_LV RX5 140 YX5_keepAct 0 4 := ⟨⟨(jm_tb_in (List.mem_of_getElem? (i := 395) (by decide +kernel)) rfl), ini_RX5, cd_X5_keepAct, by decide +kernel, ⟨by decide +kernel, by decide +kernel⟩, by decide +kernel⟩, im_X5_keepAct, se_X5_keepAct, rfl⟩
theorem mml_RX5_289 : Cond.methodLink RX5 289 YJ9_min_7cf53.1 ∈ jm_tb := (jm_tb_in (List.mem_of_getElem? (i := 399) (by decide +kernel)) rfl)
theorem lk_RX5_143 : jm_LV RX5 143 YX2_passMinute 0 1 := ⟨⟨(jm_tb_in (List.mem_of_getElem? (i := 402) (by decide +kernel)) rfl), ini_RX2, cd_X2_passMinute, by decide +kernel, ⟨by decide +kernel, by decide +kernel⟩, by decide +kernel⟩, im_X2_passMinute, se_X2_passMinute, rfl⟩
theorem lk_RX2_60 : jm_LV RX2 60 YX2_isWet 1 1 := ⟨⟨(jm_tb_in (List.mem_of_getElem? (i := 406) (by decide +kernel)) rfl), ini_RX2, cd_X2_isWet, by decide +kernel, ⟨by decide +kernel, by decide +kernel⟩, by decide +kernel⟩, im_X2_isWet, se_X2_isWet, rfl⟩
theorem lk_RX2_63 : jm_LV RX2 63 YX2_moved 4 1 := ⟨⟨(jm_tb_in (List.mem_of_getElem? (i := 410) (by decide +kernel)) rfl), ini_RX2, cd_X2_moved, by decide +kernel, ⟨by decide +kernel, by decide +kernel⟩, by decide +kernel⟩, im_X2_moved, se_X2_moved, rfl⟩
theorem lk_RX2_47 : jm_LS RX2 47 YX2_isGone 1 := ⟨⟨(jm_tb_in (List.mem_of_getElem? (i := 414) (by decide +kernel)) rfl), ini_RX2, cd_X2_isGone, by decide +kernel, ⟨by decide +kernel, by decide +kernel⟩, by decide +kernel⟩, sm_X2_isGone⟩
theorem lk_RX2_37 : jm_LS RX2 37 YX2_sizeIn 1 := ⟨⟨(jm_tb_in (List.mem_of_getElem? (i := 417) (by decide +kernel)) rfl), ini_RX2, cd_X2_sizeIn, by decide +kernel, ⟨by decide +kernel, by decide +kernel⟩, by decide +kernel⟩, sm_X2_sizeIn⟩
theorem lk_RX2_56 : jm_LS RX2 56 YX1_isOne 2 := ⟨⟨(jm_tb_in (List.mem_of_getElem? (i := 420) (by decide +kernel)) rfl), ini_RX1, cd_X1_isOne, by decide +kernel, ⟨by decide +kernel, by decide +kernel⟩, by decide +kernel⟩, sm_X1_isOne⟩
theorem lk_RX2_67 : jm_LV RX2 67 YX2_climbed 3 1 := ⟨⟨(jm_tb_in (List.mem_of_getElem? (i := 425) (by decide +kernel)) rfl), ini_RX2, cd_X2_climbed, by decide +kernel, ⟨by decide +kernel, by decide +kernel⟩, by decide +kernel⟩, im_X2_climbed, se_X2_climbed, rfl⟩
theorem lk_RX2_51 : jm_LS RX2 51 YX2_cellIn 1 := ⟨⟨(jm_tb_in (List.mem_of_getElem? (i := 429) (by decide +kernel)) rfl), ini_RX2, cd_X2_cellIn, by decide +kernel, ⟨by decide +kernel, by decide +kernel⟩, by decide +kernel⟩, sm_X2_cellIn⟩
theorem lk_RX2_74 : jm_LV RX2 74 YX2_paceOf 2 1 := ⟨⟨(jm_tb_in (List.mem_of_getElem? (i := 432) (by decide +kernel)) rfl), ini_RX2, cd_X2_paceOf, by decide +kernel, ⟨by decide +kernel, by decide +kernel⟩, by decide +kernel⟩, im_X2_paceOf, se_X2_paceOf, rfl⟩
theorem lk_RX2_78 : jm_LS RX2 78 YX2_packed 2 := ⟨⟨(jm_tb_in (List.mem_of_getElem? (i := 436) (by decide +kernel)) rfl), ini_RX2, cd_X2_packed, by decide +kernel, ⟨by decide +kernel, by decide +kernel⟩, by decide +kernel⟩, sm_X2_packed⟩
theorem lk_RX2_71 : jm_LV RX2 71 YX2_drifted 3 1 := ⟨⟨(jm_tb_in (List.mem_of_getElem? (i := 437) (by decide +kernel)) rfl), ini_RX2, cd_X2_drifted, by decide +kernel, ⟨by decide +kernel, by decide +kernel⟩, by decide +kernel⟩, im_X2_drifted, se_X2_drifted, rfl⟩
theorem lk_RX5_146 : jm_LV RX5 146 YX2_goneBits 0 1 := ⟨⟨(jm_tb_in (List.mem_of_getElem? (i := 441) (by decide +kernel)) rfl), ini_RX2, cd_X2_goneBits, by decide +kernel, ⟨by decide +kernel, by decide +kernel⟩, by decide +kernel⟩, im_X2_goneBits, se_X2_goneBits, rfl⟩
theorem lk_RL_49 : jm_LV RL 49 YX5_say 3 4 := ⟨⟨(jm_tb_in (List.mem_of_getElem? (i := 445) (by decide +kernel)) rfl), ini_RX5, cd_X5_say, by decide +kernel, ⟨by decide +kernel, by decide +kernel⟩, by decide +kernel⟩, im_X5_say, se_X5_say, rfl⟩
theorem lk_RX5_150 : jm_LV RX5 150 YX2_hasWord 1 1 := ⟨⟨(jm_tb_in (List.mem_of_getElem? (i := 449) (by decide +kernel)) rfl), ini_RX2, cd_X2_hasWord, by decide +kernel, ⟨by decide +kernel, by decide +kernel⟩, by decide +kernel⟩, im_X2_hasWord, se_X2_hasWord, rfl⟩
theorem lk_RX5_153 : jm_LV RX5 153 YX2_hasCell 1 1 := ⟨⟨(jm_tb_in (List.mem_of_getElem? (i := 453) (by decide +kernel)) rfl), ini_RX2, cd_X2_hasCell, by decide +kernel, ⟨by decide +kernel, by decide +kernel⟩, by decide +kernel⟩, im_X2_hasCell, se_X2_hasCell, rfl⟩
theorem lk_RX5_156 : jm_LV RX5 156 YX2_sizeOf 1 1 := ⟨⟨(jm_tb_in (List.mem_of_getElem? (i := 457) (by decide +kernel)) rfl), ini_RX2, cd_X2_sizeOf, by decide +kernel, ⟨by decide +kernel, by decide +kernel⟩, by decide +kernel⟩, im_X2_sizeOf, se_X2_sizeOf, rfl⟩
theorem lk_RX5_163 : jm_LS RX5 163 YX2_packed 2 := ⟨⟨(jm_tb_in (List.mem_of_getElem? (i := 461) (by decide +kernel)) rfl), ini_RX2, cd_X2_packed, by decide +kernel, ⟨by decide +kernel, by decide +kernel⟩, by decide +kernel⟩, sm_X2_packed⟩
theorem lk_RL_53 : jm_LV RL 53 YX5_speed 2 4 := ⟨⟨(jm_tb_in (List.mem_of_getElem? (i := 462) (by decide +kernel)) rfl), ini_RX5, cd_X5_speed, by decide +kernel, ⟨by decide +kernel, by decide +kernel⟩, by decide +kernel⟩, im_X5_speed, se_X5_speed, rfl⟩
theorem lk_RL_58 : jm_LV RL 58 YX5_rain 1 4 := ⟨⟨(jm_tb_in (List.mem_of_getElem? (i := 466) (by decide +kernel)) rfl), ini_RX5, cd_X5_rain, by decide +kernel, ⟨by decide +kernel, by decide +kernel⟩, by decide +kernel⟩, im_X5_rain, se_X5_rain, rfl⟩
theorem lk_RL_62 : jm_LV RL 62 YX5_undo 0 4 := ⟨⟨(jm_tb_in (List.mem_of_getElem? (i := 470) (by decide +kernel)) rfl), ini_RX5, cd_X5_undo, by decide +kernel, ⟨by decide +kernel, by decide +kernel⟩, by decide +kernel⟩, im_X5_undo, se_X5_undo, rfl⟩
theorem lk_RL_66 : jm_LV RL 66 YX5_word 2 4 := ⟨⟨(jm_tb_in (List.mem_of_getElem? (i := 474) (by decide +kernel)) rfl), ini_RX5, cd_X5_word, by decide +kernel, ⟨by decide +kernel, by decide +kernel⟩, by decide +kernel⟩, im_X5_word, se_X5_word, rfl⟩
theorem lk_RX5_173 : jm_LS RX5 173 YX2_sizeIn 1 := ⟨⟨(jm_tb_in (List.mem_of_getElem? (i := 478) (by decide +kernel)) rfl), ini_RX2, cd_X2_sizeIn, by decide +kernel, ⟨by decide +kernel, by decide +kernel⟩, by decide +kernel⟩, sm_X2_sizeIn⟩
theorem lk_RX5_176 : jm_LS RX5 176 YX5_cellOrNone 1 := ⟨⟨(jm_tb_in (List.mem_of_getElem? (i := 479) (by decide +kernel)) rfl), ini_RX5, cd_X5_cellOrNone, by decide +kernel, ⟨by decide +kernel, by decide +kernel⟩, by decide +kernel⟩, sm_X5_cellOrNone⟩
theorem lk_RX5_179 : jm_LS RX5 179 YX2_isGone 1 := ⟨⟨(jm_tb_in (List.mem_of_getElem? (i := 482) (by decide +kernel)) rfl), ini_RX2, cd_X2_isGone, by decide +kernel, ⟨by decide +kernel, by decide +kernel⟩, by decide +kernel⟩, sm_X2_isGone⟩
theorem lk_RX5_182 : jm_LS RX5 182 YX2_cellIn 1 := ⟨⟨(jm_tb_in (List.mem_of_getElem? (i := 484) (by decide +kernel)) rfl), ini_RX2, cd_X2_cellIn, by decide +kernel, ⟨by decide +kernel, by decide +kernel⟩, by decide +kernel⟩, sm_X2_cellIn⟩
theorem lk_RL_70 : jm_LV RL 70 YX5_cell 2 4 := ⟨⟨(jm_tb_in (List.mem_of_getElem? (i := 485) (by decide +kernel)) rfl), ini_RX5, cd_X5_cell, by decide +kernel, ⟨by decide +kernel, by decide +kernel⟩, by decide +kernel⟩, im_X5_cell, se_X5_cell, rfl⟩
theorem lk_RX5_185 : jm_LV RX5 185 YX2_isWet 1 1 := ⟨⟨(jm_tb_in (List.mem_of_getElem? (i := 489) (by decide +kernel)) rfl), ini_RX2, cd_X2_isWet, by decide +kernel, ⟨by decide +kernel, by decide +kernel⟩, by decide +kernel⟩, im_X2_isWet, se_X2_isWet, rfl⟩
theorem lk_RX5_188 : jm_LV RX5 188 YX2_paceOf 2 1 := ⟨⟨(jm_tb_in (List.mem_of_getElem? (i := 490) (by decide +kernel)) rfl), ini_RX2, cd_X2_paceOf, by decide +kernel, ⟨by decide +kernel, by decide +kernel⟩, by decide +kernel⟩, im_X2_paceOf, se_X2_paceOf, rfl⟩
theorem lk_RX5_192 : jm_LV RX5 192 YX2_wordsIn 1 1 := ⟨⟨(jm_tb_in (List.mem_of_getElem? (i := 491) (by decide +kernel)) rfl), ini_RX2, cd_X2_wordsIn, by decide +kernel, ⟨by decide +kernel, by decide +kernel⟩, by decide +kernel⟩, im_X2_wordsIn, se_X2_wordsIn, rfl⟩
theorem lk_RL_74 : jm_LV RL 74 YX5_ahead 3 4 := ⟨⟨(jm_tb_in (List.mem_of_getElem? (i := 495) (by decide +kernel)) rfl), ini_RX5, cd_X5_ahead, by decide +kernel, ⟨by decide +kernel, by decide +kernel⟩, by decide +kernel⟩, im_X5_ahead, se_X5_ahead, rfl⟩
theorem lk_RX5_195 : jm_LV RX5 195 YX2_foretold 2 1 := ⟨⟨(jm_tb_in (List.mem_of_getElem? (i := 499) (by decide +kernel)) rfl), ini_RX2, cd_X2_foretold, by decide +kernel, ⟨by decide +kernel, by decide +kernel⟩, by decide +kernel⟩, im_X2_foretold, se_X2_foretold, rfl⟩
theorem lk_RL_78 : jm_LV RL 78 YX5_quarrel 1 4 := ⟨⟨(jm_tb_in (List.mem_of_getElem? (i := 503) (by decide +kernel)) rfl), ini_RX5, cd_X5_quarrel, by decide +kernel, ⟨by decide +kernel, by decide +kernel⟩, by decide +kernel⟩, im_X5_quarrel, se_X5_quarrel, rfl⟩
theorem lk_RX5_198 : jm_LV RX5 198 YX2_quarrelBehind 1 1 := ⟨⟨(jm_tb_in (List.mem_of_getElem? (i := 507) (by decide +kernel)) rfl), ini_RX2, cd_X2_quarrelBehind, by decide +kernel, ⟨by decide +kernel, by decide +kernel⟩, by decide +kernel⟩, im_X2_quarrelBehind, se_X2_quarrelBehind, rfl⟩
theorem lk_RX2_83 : jm_LV RX2 83 YX2_foretold 2 1 := ⟨⟨(jm_tb_in (List.mem_of_getElem? (i := 511) (by decide +kernel)) rfl), ini_RX2, cd_X2_foretold, by decide +kernel, ⟨by decide +kernel, by decide +kernel⟩, by decide +kernel⟩, im_X2_foretold, se_X2_foretold, rfl⟩
theorem lk_RL_82 : jm_LV RL 82 YX5_over 1 4 := ⟨⟨(jm_tb_in (List.mem_of_getElem? (i := 512) (by decide +kernel)) rfl), ini_RX5, cd_X5_over, by decide +kernel, ⟨by decide +kernel, by decide +kernel⟩, by decide +kernel⟩, im_X5_over, se_X5_over, rfl⟩
theorem lk_RX5_201 : jm_LV RX5 201 YX2_goneBehind 2 1 := ⟨⟨(jm_tb_in (List.mem_of_getElem? (i := 516) (by decide +kernel)) rfl), ini_RX2, cd_X2_goneBehind, by decide +kernel, ⟨by decide +kernel, by decide +kernel⟩, by decide +kernel⟩, im_X2_goneBehind, se_X2_goneBehind, rfl⟩
theorem lk_RL_86 : jm_LV RL 86 YX5_kept 0 4 := ⟨⟨(jm_tb_in (List.mem_of_getElem? (i := 521) (by decide +kernel)) rfl), ini_RX5, cd_X5_kept, by decide +kernel, ⟨by decide +kernel, by decide +kernel⟩, by decide +kernel⟩, im_X5_kept, se_X5_kept, rfl⟩
theorem lk_RL_90 : jm_LV RL 90 YX5_calm 2 4 := ⟨⟨(jm_tb_in (List.mem_of_getElem? (i := 525) (by decide +kernel)) rfl), ini_RX5, cd_X5_calm, by decide +kernel, ⟨by decide +kernel, by decide +kernel⟩, by decide +kernel⟩, im_X5_calm, se_X5_calm, rfl⟩
theorem lk_RL_94 : jm_LV RL 94 YX5_swift 2 4 := ⟨⟨(jm_tb_in (List.mem_of_getElem? (i := 529) (by decide +kernel)) rfl), ini_RX5, cd_X5_swift, by decide +kernel, ⟨by decide +kernel, by decide +kernel⟩, by decide +kernel⟩, im_X5_swift, se_X5_swift, rfl⟩
theorem lk_RX5_207 : jm_LV RX5 207 YX5_fewestSwift 1 4 := ⟨⟨(jm_tb_in (List.mem_of_getElem? (i := 533) (by decide +kernel)) rfl), ini_RX5, cd_X5_fewestSwift, by decide +kernel, ⟨by decide +kernel, by decide +kernel⟩, by decide +kernel⟩, im_X5_fewestSwift, se_X5_fewestSwift, rfl⟩
theorem lk_RX5_294 : jm_LV RX5 294 YX2_hasClimber 0 1 := ⟨⟨(jm_tb_in (List.mem_of_getElem? (i := 537) (by decide +kernel)) rfl), ini_RX2, cd_X2_hasClimber, by decide +kernel, ⟨by decide +kernel, by decide +kernel⟩, by decide +kernel⟩, im_X2_hasClimber, se_X2_hasClimber, rfl⟩
theorem lk_RX5_211 : jm_LS RX5 211 YJ6_bitCount_0f7a4 1 := ⟨⟨(jm_tb_in (List.mem_of_getElem? (i := 541) (by decide +kernel)) rfl), ini_RJ6, cd_J6_bitCount_0f7a4, by decide +kernel, ⟨by decide +kernel, by decide +kernel⟩, by decide +kernel⟩, sm_J6_bitCount_0f7a4⟩
theorem lk_RX5_297 : jm_LV RX5 297 YX2_takeSpeeds 2 1 := ⟨⟨(jm_tb_in (List.mem_of_getElem? (i := 547) (by decide +kernel)) rfl), ini_RX2, cd_X2_takeSpeeds, by decide +kernel, ⟨by decide +kernel, by decide +kernel⟩, by decide +kernel⟩, im_X2_takeSpeeds, se_X2_takeSpeeds, rfl⟩
theorem lk_RX5_300 : jm_LV RX5 300 YX2_isAllGoneBehind 1 1 := ⟨⟨(jm_tb_in (List.mem_of_getElem? (i := 551) (by decide +kernel)) rfl), ini_RX2, cd_X2_isAllGoneBehind, by decide +kernel, ⟨by decide +kernel, by decide +kernel⟩, by decide +kernel⟩, im_X2_isAllGoneBehind, se_X2_isAllGoneBehind, rfl⟩
theorem lk_RL_98 : jm_LV RL 98 YX5_stir 3 4 := ⟨⟨(jm_tb_in (List.mem_of_getElem? (i := 555) (by decide +kernel)) rfl), ini_RX5, cd_X5_stir, by decide +kernel, ⟨by decide +kernel, by decide +kernel⟩, by decide +kernel⟩, im_X5_stir, se_X5_stir, rfl⟩
theorem lk_RL_102 : jm_LV RL 102 YX5_share 2 4 := ⟨⟨(jm_tb_in (List.mem_of_getElem? (i := 559) (by decide +kernel)) rfl), ini_RX5, cd_X5_share, by decide +kernel, ⟨by decide +kernel, by decide +kernel⟩, by decide +kernel⟩, im_X5_share, se_X5_share, rfl⟩
theorem lk_RL_106 : jm_LV RL 106 YX5_fits 5 4 := ⟨⟨(jm_tb_in (List.mem_of_getElem? (i := 563) (by decide +kernel)) rfl), ini_RX5, cd_X5_fits, by decide +kernel, ⟨by decide +kernel, by decide +kernel⟩, by decide +kernel⟩, im_X5_fits, se_X5_fits, rfl⟩
theorem lk_RX5_220 : jm_LV RX5 220 YX5_fittingSorts 4 4 := ⟨⟨(jm_tb_in (List.mem_of_getElem? (i := 567) (by decide +kernel)) rfl), ini_RX5, cd_X5_fittingSorts, by decide +kernel, ⟨by decide +kernel, by decide +kernel⟩, by decide +kernel⟩, im_X5_fittingSorts, se_X5_fittingSorts, rfl⟩
theorem lk_RX5_303 : jm_LV RX5 303 YX2_goesAsTold 5 1 := ⟨⟨(jm_tb_in (List.mem_of_getElem? (i := 571) (by decide +kernel)) rfl), ini_RX2, cd_X2_goesAsTold, by decide +kernel, ⟨by decide +kernel, by decide +kernel⟩, by decide +kernel⟩, im_X2_goesAsTold, se_X2_goesAsTold, rfl⟩
theorem lk_RX5_224 : jm_LV RX5 224 YX5_fittingStarts 4 4 := ⟨⟨(jm_tb_in (List.mem_of_getElem? (i := 575) (by decide +kernel)) rfl), ini_RX5, cd_X5_fittingStarts, by decide +kernel, ⟨by decide +kernel, by decide +kernel⟩, by decide +kernel⟩, im_X5_fittingStarts, se_X5_fittingStarts, rfl⟩
theorem lk_RX5_227 : jm_LV RX5 227 YX5_fittingRains 4 4 := ⟨⟨(jm_tb_in (List.mem_of_getElem? (i := 579) (by decide +kernel)) rfl), ini_RX5, cd_X5_fittingRains, by decide +kernel, ⟨by decide +kernel, by decide +kernel⟩, by decide +kernel⟩, im_X5_fittingRains, se_X5_fittingRains, rfl⟩
theorem lk_RX5_230 : jm_LV RX5 230 YX5_fittingSizes 4 4 := ⟨⟨(jm_tb_in (List.mem_of_getElem? (i := 583) (by decide +kernel)) rfl), ini_RX5, cd_X5_fittingSizes, by decide +kernel, ⟨by decide +kernel, by decide +kernel⟩, by decide +kernel⟩, im_X5_fittingSizes, se_X5_fittingSizes, rfl⟩
theorem lk_RX5_307 : jm_LV RX5 307 YX5_fitsSize 5 4 := ⟨⟨(jm_tb_in (List.mem_of_getElem? (i := 587) (by decide +kernel)) rfl), ini_RX5, cd_X5_fitsSize, by decide +kernel, ⟨by decide +kernel, by decide +kernel⟩, by decide +kernel⟩, im_X5_fitsSize, se_X5_fitsSize, rfl⟩
theorem lk_RX5_233 : jm_LV RX5 233 YX5_leastFittingSize 4 4 := ⟨⟨(jm_tb_in (List.mem_of_getElem? (i := 591) (by decide +kernel)) rfl), ini_RX5, cd_X5_leastFittingSize, by decide +kernel, ⟨by decide +kernel, by decide +kernel⟩, by decide +kernel⟩, im_X5_leastFittingSize, se_X5_leastFittingSize, rfl⟩
theorem lk_RL_110 : jm_LV RL 110 YX5_chance 4 4 := ⟨⟨(jm_tb_in (List.mem_of_getElem? (i := 595) (by decide +kernel)) rfl), ini_RX5, cd_X5_chance, by decide +kernel, ⟨by decide +kernel, by decide +kernel⟩, by decide +kernel⟩, im_X5_chance, se_X5_chance, rfl⟩
theorem lk_RX5_236 : jm_LV RX5 236 YX2_foretoldIn 3 1 := ⟨⟨(jm_tb_in (List.mem_of_getElem? (i := 599) (by decide +kernel)) rfl), ini_RX2, cd_X2_foretoldIn, by decide +kernel, ⟨by decide +kernel, by decide +kernel⟩, by decide +kernel⟩, im_X2_foretoldIn, se_X2_foretoldIn, rfl⟩
theorem lk_RX5_239 : jm_LS RX5 239 YX5_power 2 := ⟨⟨(jm_tb_in (List.mem_of_getElem? (i := 603) (by decide +kernel)) rfl), ini_RX5, cd_X5_power, by decide +kernel, ⟨by decide +kernel, by decide +kernel⟩, by decide +kernel⟩, sm_X5_power⟩
theorem lk_RX5_242 : jm_LS RX5 242 YX5_commonDivisor 2 := ⟨⟨(jm_tb_in (List.mem_of_getElem? (i := 606) (by decide +kernel)) rfl), ini_RX5, cd_X5_commonDivisor, by decide +kernel, ⟨by decide +kernel, by decide +kernel⟩, by decide +kernel⟩, sm_X5_commonDivisor⟩
theorem lk_RL_115 : jm_LV RL 115 YX5_drawn 3 4 := ⟨⟨(jm_tb_in (List.mem_of_getElem? (i := 609) (by decide +kernel)) rfl), ini_RX5, cd_X5_drawn, by decide +kernel, ⟨by decide +kernel, by decide +kernel⟩, by decide +kernel⟩, im_X5_drawn, se_X5_drawn, rfl⟩
theorem lk_RX5_252 : jm_LV RX5 252 YX2_sayDrawn 1 1 := ⟨⟨(jm_tb_in (List.mem_of_getElem? (i := 617) (by decide +kernel)) rfl), ini_RX2, cd_X2_sayDrawn, by decide +kernel, ⟨by decide +kernel, by decide +kernel⟩, by decide +kernel⟩, im_X2_sayDrawn, se_X2_sayDrawn, rfl⟩
theorem lk_RL_119 : jm_LV RL 119 YX5_image 1 4 := ⟨⟨(jm_tb_in (List.mem_of_getElem? (i := 621) (by decide +kernel)) rfl), ini_RX5, cd_X5_image, by decide +kernel, ⟨by decide +kernel, by decide +kernel⟩, by decide +kernel⟩, im_X5_image, se_X5_image, rfl⟩
theorem lk_RL_123 : jm_LV RL 123 YX5_restore 1 4 := ⟨⟨(jm_tb_in (List.mem_of_getElem? (i := 625) (by decide +kernel)) rfl), ini_RX5, cd_X5_restore, by decide +kernel, ⟨by decide +kernel, by decide +kernel⟩, by decide +kernel⟩, im_X5_restore, se_X5_restore, rfl⟩
theorem lk_RL_127 : jm_LV RL 127 YX5_kind 1 4 := ⟨⟨(jm_tb_in (List.mem_of_getElem? (i := 629) (by decide +kernel)) rfl), ini_RX5, cd_X5_kind, by decide +kernel, ⟨by decide +kernel, by decide +kernel⟩, by decide +kernel⟩, im_X5_kind, se_X5_kind, rfl⟩
theorem lk_RL_131 : jm_LV RL 131 YX5_as 2 4 := ⟨⟨(jm_tb_in (List.mem_of_getElem? (i := 633) (by decide +kernel)) rfl), ini_RX5, cd_X5_as, by decide +kernel, ⟨by decide +kernel, by decide +kernel⟩, by decide +kernel⟩, im_X5_as, se_X5_as, rfl⟩
theorem lk_RX5_260 : jm_LS RX5 260 YX1_isOne 2 := ⟨⟨(jm_tb_in (List.mem_of_getElem? (i := 637) (by decide +kernel)) rfl), ini_RX1, cd_X1_isOne, by decide +kernel, ⟨by decide +kernel, by decide +kernel⟩, by decide +kernel⟩, sm_X1_isOne⟩
theorem lk_RL_135 : jm_LV RL 135 YX5_ask 2 4 := ⟨⟨(jm_tb_in (List.mem_of_getElem? (i := 638) (by decide +kernel)) rfl), ini_RX5, cd_X5_ask, by decide +kernel, ⟨by decide +kernel, by decide +kernel⟩, by decide +kernel⟩, im_X5_ask, se_X5_ask, rfl⟩
theorem lk_RX5_263 : jm_LV RX5 263 YX0_begin 2 0 := ⟨⟨(jm_tb_in (List.mem_of_getElem? (i := 642) (by decide +kernel)) rfl), ini_RX0, cd_X0_begin, by decide +kernel, ⟨by decide +kernel, by decide +kernel⟩, by decide +kernel⟩, im_X0_begin, se_X0_begin, rfl⟩
theorem lk_RX0_39 : jm_LS RX0 39 YX2_sizeIn 1 := ⟨⟨(jm_tb_in (List.mem_of_getElem? (i := 646) (by decide +kernel)) rfl), ini_RX2, cd_X2_sizeIn, by decide +kernel, ⟨by decide +kernel, by decide +kernel⟩, by decide +kernel⟩, sm_X2_sizeIn⟩
theorem lk_RX0_43 : jm_LS RX0 43 YX2_cellIn 1 := ⟨⟨(jm_tb_in (List.mem_of_getElem? (i := 647) (by decide +kernel)) rfl), ini_RX2, cd_X2_cellIn, by decide +kernel, ⟨by decide +kernel, by decide +kernel⟩, by decide +kernel⟩, sm_X2_cellIn⟩
theorem lk_RX5_267 : jm_LV RX5 267 YX0_askSize 0 0 := ⟨⟨(jm_tb_in (List.mem_of_getElem? (i := 648) (by decide +kernel)) rfl), ini_RX0, cd_X0_askSize, by decide +kernel, ⟨by decide +kernel, by decide +kernel⟩, by decide +kernel⟩, im_X0_askSize, se_X0_askSize, rfl⟩
theorem lk_RX0_46 : jm_LV RX0 46 YX0_stickSize 0 0 := ⟨⟨(jm_tb_in (List.mem_of_getElem? (i := 652) (by decide +kernel)) rfl), ini_RX0, cd_X0_stickSize, by decide +kernel, ⟨by decide +kernel, by decide +kernel⟩, by decide +kernel⟩, im_X0_stickSize, se_X0_stickSize, rfl⟩
theorem lk_RX0_50 : jm_LV RX0 50 YX0_leave 1 0 := ⟨⟨(jm_tb_in (List.mem_of_getElem? (i := 656) (by decide +kernel)) rfl), ini_RX0, cd_X0_leave, by decide +kernel, ⟨by decide +kernel, by decide +kernel⟩, by decide +kernel⟩, im_X0_leave, se_X0_leave, rfl⟩
theorem lk_RX0_57 : jm_LV RX0 57 YX0_lentSize 0 0 := ⟨⟨(jm_tb_in (List.mem_of_getElem? (i := 660) (by decide +kernel)) rfl), ini_RX0, cd_X0_lentSize, by decide +kernel, ⟨by decide +kernel, by decide +kernel⟩, by decide +kernel⟩, im_X0_lentSize, se_X0_lentSize, rfl⟩
theorem lk_RX0_60 : jm_LV RX0 60 YX0_anyStickMark 0 0 := ⟨⟨(jm_tb_in (List.mem_of_getElem? (i := 664) (by decide +kernel)) rfl), ini_RX0, cd_X0_anyStickMark, by decide +kernel, ⟨by decide +kernel, by decide +kernel⟩, by decide +kernel⟩, im_X0_anyStickMark, se_X0_anyStickMark, rfl⟩
theorem lk_RX0_69 : jm_LV RX0 69 YX0_stickMark 0 0 := ⟨⟨(jm_tb_in (List.mem_of_getElem? (i := 668) (by decide +kernel)) rfl), ini_RX0, cd_X0_stickMark, by decide +kernel, ⟨by decide +kernel, by decide +kernel⟩, by decide +kernel⟩, im_X0_stickMark, se_X0_stickMark, rfl⟩
theorem lk_RX0_66 : jm_LV RX0 66 YX0_lentMark 0 0 := ⟨⟨(jm_tb_in (List.mem_of_getElem? (i := 672) (by decide +kernel)) rfl), ini_RX0, cd_X0_lentMark, by decide +kernel, ⟨by decide +kernel, by decide +kernel⟩, by decide +kernel⟩, im_X0_lentMark, se_X0_lentMark, rfl⟩
theorem lk_RX0_54 : jm_LV RX0 54 YX0_salmonOrEelSize 0 0 := ⟨⟨(jm_tb_in (List.mem_of_getElem? (i := 676) (by decide +kernel)) rfl), ini_RX0, cd_X0_salmonOrEelSize, by decide +kernel, ⟨by decide +kernel, by decide +kernel⟩, by decide +kernel⟩, im_X0_salmonOrEelSize, se_X0_salmonOrEelSize, rfl⟩
theorem lk_RX0_72 : jm_LV RX0 72 YX0_salmonSize 0 0 := ⟨⟨(jm_tb_in (List.mem_of_getElem? (i := 680) (by decide +kernel)) rfl), ini_RX0, cd_X0_salmonSize, by decide +kernel, ⟨by decide +kernel, by decide +kernel⟩, by decide +kernel⟩, im_X0_salmonSize, se_X0_salmonSize, rfl⟩
theorem lk_RX5_270 : jm_LV RX5 270 YX0_askMark 0 0 := ⟨⟨(jm_tb_in (List.mem_of_getElem? (i := 684) (by decide +kernel)) rfl), ini_RX0, cd_X0_askMark, by decide +kernel, ⟨by decide +kernel, by decide +kernel⟩, by decide +kernel⟩, im_X0_askMark, se_X0_askMark, rfl⟩
theorem lk_RX0_63 : jm_LV RX0 63 YX0_salmonMark 0 0 := ⟨⟨(jm_tb_in (List.mem_of_getElem? (i := 688) (by decide +kernel)) rfl), ini_RX0, cd_X0_salmonMark, by decide +kernel, ⟨by decide +kernel, by decide +kernel⟩, by decide +kernel⟩, im_X0_salmonMark, se_X0_salmonMark, rfl⟩
theorem lk_RL_139 : jm_LV RL 139 YX5_trace 1 4 := ⟨⟨(jm_tb_in (List.mem_of_getElem? (i := 692) (by decide +kernel)) rfl), ini_RX5, cd_X5_trace, by decide +kernel, ⟨by decide +kernel, by decide +kernel⟩, by decide +kernel⟩, im_X5_trace, se_X5_trace, rfl⟩
theorem lk_RX5_273 : jm_LV RX5 273 YX0_hasLeft 1 0 := ⟨⟨(jm_tb_in (List.mem_of_getElem? (i := 696) (by decide +kernel)) rfl), ini_RX0, cd_X0_hasLeft, by decide +kernel, ⟨by decide +kernel, by decide +kernel⟩, by decide +kernel⟩, im_X0_hasLeft, se_X0_hasLeft, rfl⟩
theorem lk_RL_143 : jm_LV RL 143 YX5_count 1 4 := ⟨⟨(jm_tb_in (List.mem_of_getElem? (i := 700) (by decide +kernel)) rfl), ini_RX5, cd_X5_count, by decide +kernel, ⟨by decide +kernel, by decide +kernel⟩, by decide +kernel⟩, im_X5_count, se_X5_count, rfl⟩
theorem lk_RX5_279 : jm_LV RX5 279 YX3_present 0 2 := ⟨⟨(jm_tb_in (List.mem_of_getElem? (i := 704) (by decide +kernel)) rfl), ini_RX3, cd_X3_present, by decide +kernel, ⟨by decide +kernel, by decide +kernel⟩, by decide +kernel⟩, im_X3_present, se_X3_present, rfl⟩
theorem lk_RX3_33 : jm_LV RX3 33 YX3_isMissing 1 2 := ⟨⟨(jm_tb_in (List.mem_of_getElem? (i := 708) (by decide +kernel)) rfl), ini_RX3, cd_X3_isMissing, by decide +kernel, ⟨by decide +kernel, by decide +kernel⟩, by decide +kernel⟩, im_X3_isMissing, se_X3_isMissing, rfl⟩
theorem lk_RL_147 : jm_LV RL 147 YX5_status 0 4 := ⟨⟨(jm_tb_in (List.mem_of_getElem? (i := 709) (by decide +kernel)) rfl), ini_RX5, cd_X5_status, by decide +kernel, ⟨by decide +kernel, by decide +kernel⟩, by decide +kernel⟩, im_X5_status, se_X5_status, rfl⟩
theorem lk_RL_17 : jm_LV RL 17 YX6_row 3 5 := ⟨⟨(jm_tb_in (List.mem_of_getElem? (i := 788) (by decide +kernel)) rfl), ini_RX6, cd_X6_row, by decide +kernel, ⟨by decide +kernel, by decide +kernel⟩, by decide +kernel⟩, im_X6_row, se_X6_row, rfl⟩
theorem lk_RX6_57 : jm_LS RX6 57 YX6_isRow 1 := ⟨⟨(jm_tb_in (List.mem_of_getElem? (i := 792) (by decide +kernel)) rfl), ini_RX6, cd_X6_isRow, by decide +kernel, ⟨by decide +kernel, by decide +kernel⟩, by decide +kernel⟩, sm_X6_isRow⟩
theorem lk_RX6_53 : jm_LS RX6 53 YX6_in 3 := ⟨⟨(jm_tb_in (List.mem_of_getElem? (i := 795) (by decide +kernel)) rfl), ini_RX6, cd_X6_in, by decide +kernel, ⟨by decide +kernel, by decide +kernel⟩, by decide +kernel⟩, sm_X6_in⟩
theorem lk_RX6_62 : jm_LV RX6 62 YX6_found 1 5 := ⟨⟨(jm_tb_in (List.mem_of_getElem? (i := 799) (by decide +kernel)) rfl), ini_RX6, cd_X6_found, by decide +kernel, ⟨by decide +kernel, by decide +kernel⟩, by decide +kernel⟩, im_X6_found, se_X6_found, rfl⟩
theorem lk_RX6_66 : jm_LV RX6 66 YX6_well 1 5 := ⟨⟨(jm_tb_in (List.mem_of_getElem? (i := 804) (by decide +kernel)) rfl), ini_RX6, cd_X6_well, by decide +kernel, ⟨by decide +kernel, by decide +kernel⟩, by decide +kernel⟩, im_X6_well, se_X6_well, rfl⟩
theorem lk_RL_21 : jm_LV RL 21 YX6_set 3 5 := ⟨⟨(jm_tb_in (List.mem_of_getElem? (i := 808) (by decide +kernel)) rfl), ini_RX6, cd_X6_set, by decide +kernel, ⟨by decide +kernel, by decide +kernel⟩, by decide +kernel⟩, im_X6_set, se_X6_set, rfl⟩
theorem lk_RX6_69 : jm_LV RX6 69 YX6_isMissing 1 5 := ⟨⟨(jm_tb_in (List.mem_of_getElem? (i := 812) (by decide +kernel)) rfl), ini_RX6, cd_X6_isMissing, by decide +kernel, ⟨by decide +kernel, by decide +kernel⟩, by decide +kernel⟩, im_X6_isMissing, se_X6_isMissing, rfl⟩
theorem lk_RX6_72 : jm_LS RX6 72 YX6_cut 2 := ⟨⟨(jm_tb_in (List.mem_of_getElem? (i := 816) (by decide +kernel)) rfl), ini_RX6, cd_X6_cut, by decide +kernel, ⟨by decide +kernel, by decide +kernel⟩, by decide +kernel⟩, sm_X6_cut⟩
theorem lk_RL_26 : jm_LV RL 26 YX6_copy 5 5 := ⟨⟨(jm_tb_in (List.mem_of_getElem? (i := 819) (by decide +kernel)) rfl), ini_RX6, cd_X6_copy, by decide +kernel, ⟨by decide +kernel, by decide +kernel⟩, by decide +kernel⟩, im_X6_copy, se_X6_copy, rfl⟩
theorem lk_RX6_76 : jm_LV RX6 76 YX6_isPart 3 5 := ⟨⟨(jm_tb_in (List.mem_of_getElem? (i := 823) (by decide +kernel)) rfl), ini_RX6, cd_X6_isPart, by decide +kernel, ⟨by decide +kernel, by decide +kernel⟩, by decide +kernel⟩, im_X6_isPart, se_X6_isPart, rfl⟩
theorem lk_RL_31 : jm_LV RL 31 YX6_drop 1 5 := ⟨⟨(jm_tb_in (List.mem_of_getElem? (i := 827) (by decide +kernel)) rfl), ini_RX6, cd_X6_drop, by decide +kernel, ⟨by decide +kernel, by decide +kernel⟩, by decide +kernel⟩, im_X6_drop, se_X6_drop, rfl⟩
theorem lk_RL_35 : jm_LV RL 35 YX6_feed 1 5 := ⟨⟨(jm_tb_in (List.mem_of_getElem? (i := 831) (by decide +kernel)) rfl), ini_RX6, cd_X6_feed, by decide +kernel, ⟨by decide +kernel, by decide +kernel⟩, by decide +kernel⟩, im_X6_feed, se_X6_feed, rfl⟩
theorem lk_RL_40 : jm_LV RL 40 YX6_river 0 5 := ⟨⟨(jm_tb_in (List.mem_of_getElem? (i := 836) (by decide +kernel)) rfl), ini_RX6, cd_X6_river, by decide +kernel, ⟨by decide +kernel, by decide +kernel⟩, by decide +kernel⟩, im_X6_river, se_X6_river, rfl⟩
theorem lk_RX6_108 : jm_LV RX6 108 YX6_advances 0 5 := ⟨⟨(jm_tb_in (List.mem_of_getElem? (i := 840) (by decide +kernel)) rfl), ini_RX6, cd_X6_advances, by decide +kernel, ⟨by decide +kernel, by decide +kernel⟩, by decide +kernel⟩, im_X6_advances, se_X6_advances, rfl⟩
theorem lk_RX6_89 : jm_LV RX6 89 YX6_byteAt 1 5 := ⟨⟨(jm_tb_in (List.mem_of_getElem? (i := 844) (by decide +kernel)) rfl), ini_RX6, cd_X6_byteAt, by decide +kernel, ⟨by decide +kernel, by decide +kernel⟩, by decide +kernel⟩, im_X6_byteAt, se_X6_byteAt, rfl⟩
theorem lk_RX6_111 : jm_LV RX6 111 YX6_takes 2 5 := ⟨⟨(jm_tb_in (List.mem_of_getElem? (i := 848) (by decide +kernel)) rfl), ini_RX6, cd_X6_takes, by decide +kernel, ⟨by decide +kernel, by decide +kernel⟩, by decide +kernel⟩, im_X6_takes, se_X6_takes, rfl⟩
theorem lk_RX6_101 : jm_LV RX6 101 YX6_isWell 0 5 := ⟨⟨(jm_tb_in (List.mem_of_getElem? (i := 852) (by decide +kernel)) rfl), ini_RX6, cd_X6_isWell, by decide +kernel, ⟨by decide +kernel, by decide +kernel⟩, by decide +kernel⟩, im_X6_isWell, se_X6_isWell, rfl⟩
theorem lk_RX6_115 : jm_LV RX6 115 YX6_figure 2 5 := ⟨⟨(jm_tb_in (List.mem_of_getElem? (i := 856) (by decide +kernel)) rfl), ini_RX6, cd_X6_figure, by decide +kernel, ⟨by decide +kernel, by decide +kernel⟩, by decide +kernel⟩, im_X6_figure, se_X6_figure, rfl⟩
theorem lk_RX6_121 : jm_LV RX6 121 YX6_follows 2 5 := ⟨⟨(jm_tb_in (List.mem_of_getElem? (i := 860) (by decide +kernel)) rfl), ini_RX6, cd_X6_follows, by decide +kernel, ⟨by decide +kernel, by decide +kernel⟩, by decide +kernel⟩, im_X6_follows, se_X6_follows, rfl⟩
theorem lk_RX6_124 : jm_LV RX6 124 YX6_readsCell 0 5 := ⟨⟨(jm_tb_in (List.mem_of_getElem? (i := 864) (by decide +kernel)) rfl), ini_RX6, cd_X6_readsCell, by decide +kernel, ⟨by decide +kernel, by decide +kernel⟩, by decide +kernel⟩, im_X6_readsCell, se_X6_readsCell, rfl⟩
theorem lk_RX6_127 : jm_LV RX6 127 YX6_must 1 5 := ⟨⟨(jm_tb_in (List.mem_of_getElem? (i := 868) (by decide +kernel)) rfl), ini_RX6, cd_X6_must, by decide +kernel, ⟨by decide +kernel, by decide +kernel⟩, by decide +kernel⟩, im_X6_must, se_X6_must, rfl⟩
theorem lk_RX6_118 : jm_LS RX6 118 YX6_kindOf 1 := ⟨⟨(jm_tb_in (List.mem_of_getElem? (i := 872) (by decide +kernel)) rfl), ini_RX6, cd_X6_kindOf, by decide +kernel, ⟨by decide +kernel, by decide +kernel⟩, by decide +kernel⟩, sm_X6_kindOf⟩
theorem lk_RX6_131 : jm_LV RX6 131 YX6_readsWord 0 5 := ⟨⟨(jm_tb_in (List.mem_of_getElem? (i := 875) (by decide +kernel)) rfl), ini_RX6, cd_X6_readsWord, by decide +kernel, ⟨by decide +kernel, by decide +kernel⟩, by decide +kernel⟩, im_X6_readsWord, se_X6_readsWord, rfl⟩
theorem lk_RX6_135 : jm_LS RX6 135 YX6_copies 4 := ⟨⟨(jm_tb_in (List.mem_of_getElem? (i := 880) (by decide +kernel)) rfl), ini_RX6, cd_X6_copies, by decide +kernel, ⟨by decide +kernel, by decide +kernel⟩, by decide +kernel⟩, sm_X6_copies⟩
theorem lk_RL_44 : jm_LV RL 44 YX6_fault 0 5 := ⟨⟨(jm_tb_in (List.mem_of_getElem? (i := 883) (by decide +kernel)) rfl), ini_RX6, cd_X6_fault, by decide +kernel, ⟨by decide +kernel, by decide +kernel⟩, by decide +kernel⟩, im_X6_fault, se_X6_fault, rfl⟩
theorem lk_RL_48 : jm_LV RL 48 YX6_minutes 1 5 := ⟨⟨(jm_tb_in (List.mem_of_getElem? (i := 887) (by decide +kernel)) rfl), ini_RX6, cd_X6_minutes, by decide +kernel, ⟨by decide +kernel, by decide +kernel⟩, by decide +kernel⟩, im_X6_minutes, se_X6_minutes, rfl⟩
theorem lk_RX6_161 : jm_LV RX6 161 YX6_isRiver 0 5 := ⟨⟨(jm_tb_in (List.mem_of_getElem? (i := 891) (by decide +kernel)) rfl), ini_RX6, cd_X6_isRiver, by decide +kernel, ⟨by decide +kernel, by decide +kernel⟩, by decide +kernel⟩, im_X6_isRiver, se_X6_isRiver, rfl⟩
theorem lk_RX6_165 : jm_LV RX6 165 YX6_notes 0 5 := ⟨⟨(jm_tb_in (List.mem_of_getElem? (i := 896) (by decide +kernel)) rfl), ini_RX6, cd_X6_notes, by decide +kernel, ⟨by decide +kernel, by decide +kernel⟩, by decide +kernel⟩, im_X6_notes, se_X6_notes, rfl⟩
theorem lk_RX6_168 : jm_LS RX6 168 YX6_passes 1 := ⟨⟨(jm_tb_in (List.mem_of_getElem? (i := 900) (by decide +kernel)) rfl), ini_RX6, cd_X6_passes, by decide +kernel, ⟨by decide +kernel, by decide +kernel⟩, by decide +kernel⟩, sm_X6_passes⟩
theorem lk_RX6_157 : jm_LS RX6 157 YX6_goes 2 := ⟨⟨(jm_tb_in (List.mem_of_getElem? (i := 903) (by decide +kernel)) rfl), ini_RX6, cd_X6_goes, by decide +kernel, ⟨by decide +kernel, by decide +kernel⟩, by decide +kernel⟩, sm_X6_goes⟩
theorem lk_RX6_154 : jm_LS RX6 154 YX6_goesTo 2 := ⟨⟨(jm_tb_in (List.mem_of_getElem? (i := 906) (by decide +kernel)) rfl), ini_RX6, cd_X6_goesTo, by decide +kernel, ⟨by decide +kernel, by decide +kernel⟩, by decide +kernel⟩, sm_X6_goesTo⟩
theorem lk_RX6_146 : jm_LS RX6 146 YX6_pace 2 := ⟨⟨(jm_tb_in (List.mem_of_getElem? (i := 909) (by decide +kernel)) rfl), ini_RX6, cd_X6_pace, by decide +kernel, ⟨by decide +kernel, by decide +kernel⟩, by decide +kernel⟩, sm_X6_pace⟩
theorem lk_RX6_142 : jm_LS RX6 142 YX6_has 2 := ⟨⟨(jm_tb_in (List.mem_of_getElem? (i := 912) (by decide +kernel)) rfl), ini_RX6, cd_X6_has, by decide +kernel, ⟨by decide +kernel, by decide +kernel⟩, by decide +kernel⟩, sm_X6_has⟩
theorem lk_RX6_150 : jm_LS RX6 150 YX6_upFrom 3 := ⟨⟨(jm_tb_in (List.mem_of_getElem? (i := 915) (by decide +kernel)) rfl), ini_RX6, cd_X6_upFrom, by decide +kernel, ⟨by decide +kernel, by decide +kernel⟩, by decide +kernel⟩, sm_X6_upFrom⟩
theorem lk_RX6_172 : jm_LS RX6 172 YX6_goneOf 1 := ⟨⟨(jm_tb_in (List.mem_of_getElem? (i := 918) (by decide +kernel)) rfl), ini_RX6, cd_X6_goneOf, by decide +kernel, ⟨by decide +kernel, by decide +kernel⟩, by decide +kernel⟩, sm_X6_goneOf⟩
theorem lk_RL_52 : jm_LV RL 52 YX6_say 3 5 := ⟨⟨(jm_tb_in (List.mem_of_getElem? (i := 921) (by decide +kernel)) rfl), ini_RX6, cd_X6_say, by decide +kernel, ⟨by decide +kernel, by decide +kernel⟩, by decide +kernel⟩, im_X6_say, se_X6_say, rfl⟩
theorem lk_RX6_176 : jm_LV RX6 176 YX6_isWord 1 5 := ⟨⟨(jm_tb_in (List.mem_of_getElem? (i := 925) (by decide +kernel)) rfl), ini_RX6, cd_X6_isWord, by decide +kernel, ⟨by decide +kernel, by decide +kernel⟩, by decide +kernel⟩, im_X6_isWord, se_X6_isWord, rfl⟩
theorem lk_RX6_179 : jm_LV RX6 179 YX6_isCell 1 5 := ⟨⟨(jm_tb_in (List.mem_of_getElem? (i := 929) (by decide +kernel)) rfl), ini_RX6, cd_X6_isCell, by decide +kernel, ⟨by decide +kernel, by decide +kernel⟩, by decide +kernel⟩, im_X6_isCell, se_X6_isCell, rfl⟩
theorem lk_RX6_182 : jm_LS RX6 182 YX6_says 4 := ⟨⟨(jm_tb_in (List.mem_of_getElem? (i := 933) (by decide +kernel)) rfl), ini_RX6, cd_X6_says, by decide +kernel, ⟨by decide +kernel, by decide +kernel⟩, by decide +kernel⟩, sm_X6_says⟩
theorem lk_RL_57 : jm_LV RL 57 YX6_speed 2 5 := ⟨⟨(jm_tb_in (List.mem_of_getElem? (i := 936) (by decide +kernel)) rfl), ini_RX6, cd_X6_speed, by decide +kernel, ⟨by decide +kernel, by decide +kernel⟩, by decide +kernel⟩, im_X6_speed, se_X6_speed, rfl⟩
theorem lk_RL_61 : jm_LV RL 61 YX6_rain 1 5 := ⟨⟨(jm_tb_in (List.mem_of_getElem? (i := 940) (by decide +kernel)) rfl), ini_RX6, cd_X6_rain, by decide +kernel, ⟨by decide +kernel, by decide +kernel⟩, by decide +kernel⟩, im_X6_rain, se_X6_rain, rfl⟩
theorem lk_RL_65 : jm_LV RL 65 YX6_undo 0 5 := ⟨⟨(jm_tb_in (List.mem_of_getElem? (i := 944) (by decide +kernel)) rfl), ini_RX6, cd_X6_undo, by decide +kernel, ⟨by decide +kernel, by decide +kernel⟩, by decide +kernel⟩, im_X6_undo, se_X6_undo, rfl⟩
theorem lk_RL_69 : jm_LV RL 69 YX6_word 2 5 := ⟨⟨(jm_tb_in (List.mem_of_getElem? (i := 948) (by decide +kernel)) rfl), ini_RX6, cd_X6_word, by decide +kernel, ⟨by decide +kernel, by decide +kernel⟩, by decide +kernel⟩, im_X6_word, se_X6_word, rfl⟩
theorem lk_RX6_186 : jm_LS RX6 186 YX6_whereIs 2 := ⟨⟨(jm_tb_in (List.mem_of_getElem? (i := 952) (by decide +kernel)) rfl), ini_RX6, cd_X6_whereIs, by decide +kernel, ⟨by decide +kernel, by decide +kernel⟩, by decide +kernel⟩, sm_X6_whereIs⟩
theorem lk_RL_73 : jm_LV RL 73 YX6_cell 2 5 := ⟨⟨(jm_tb_in (List.mem_of_getElem? (i := 955) (by decide +kernel)) rfl), ini_RX6, cd_X6_cell, by decide +kernel, ⟨by decide +kernel, by decide +kernel⟩, by decide +kernel⟩, im_X6_cell, se_X6_cell, rfl⟩
theorem lk_RX6_189 : jm_LV RX6 189 YX6_wordsIn 1 5 := ⟨⟨(jm_tb_in (List.mem_of_getElem? (i := 959) (by decide +kernel)) rfl), ini_RX6, cd_X6_wordsIn, by decide +kernel, ⟨by decide +kernel, by decide +kernel⟩, by decide +kernel⟩, im_X6_wordsIn, se_X6_wordsIn, rfl⟩
theorem lk_RL_77 : jm_LV RL 77 YX6_ahead 3 5 := ⟨⟨(jm_tb_in (List.mem_of_getElem? (i := 963) (by decide +kernel)) rfl), ini_RX6, cd_X6_ahead, by decide +kernel, ⟨by decide +kernel, by decide +kernel⟩, by decide +kernel⟩, im_X6_ahead, se_X6_ahead, rfl⟩
theorem lk_RX6_192 : jm_LV RX6 192 YX6_goesOn 1 5 := ⟨⟨(jm_tb_in (List.mem_of_getElem? (i := 967) (by decide +kernel)) rfl), ini_RX6, cd_X6_goesOn, by decide +kernel, ⟨by decide +kernel, by decide +kernel⟩, by decide +kernel⟩, im_X6_goesOn, se_X6_goesOn, rfl⟩
theorem lk_RL_81 : jm_LV RL 81 YX6_quarrel 1 5 := ⟨⟨(jm_tb_in (List.mem_of_getElem? (i := 971) (by decide +kernel)) rfl), ini_RX6, cd_X6_quarrel, by decide +kernel, ⟨by decide +kernel, by decide +kernel⟩, by decide +kernel⟩, im_X6_quarrel, se_X6_quarrel, rfl⟩
theorem lk_RX6_196 : jm_LS RX6 196 YX6_sizes 1 := ⟨⟨(jm_tb_in (List.mem_of_getElem? (i := 975) (by decide +kernel)) rfl), ini_RX6, cd_X6_sizes, by decide +kernel, ⟨by decide +kernel, by decide +kernel⟩, by decide +kernel⟩, sm_X6_sizes⟩
theorem lk_RL_85 : jm_LV RL 85 YX6_over 1 5 := ⟨⟨(jm_tb_in (List.mem_of_getElem? (i := 978) (by decide +kernel)) rfl), ini_RX6, cd_X6_over, by decide +kernel, ⟨by decide +kernel, by decide +kernel⟩, by decide +kernel⟩, im_X6_over, se_X6_over, rfl⟩
theorem lk_RL_89 : jm_LV RL 89 YX6_kept 0 5 := ⟨⟨(jm_tb_in (List.mem_of_getElem? (i := 982) (by decide +kernel)) rfl), ini_RX6, cd_X6_kept, by decide +kernel, ⟨by decide +kernel, by decide +kernel⟩, by decide +kernel⟩, im_X6_kept, se_X6_kept, rfl⟩
theorem lk_RX6_199 : jm_LS RX6 199 YX6_all 1 := ⟨⟨(jm_tb_in (List.mem_of_getElem? (i := 986) (by decide +kernel)) rfl), ini_RX6, cd_X6_all, by decide +kernel, ⟨by decide +kernel, by decide +kernel⟩, by decide +kernel⟩, sm_X6_all⟩
theorem lk_RL_93 : jm_LV RL 93 YX6_calm 2 5 := ⟨⟨(jm_tb_in (List.mem_of_getElem? (i := 989) (by decide +kernel)) rfl), ini_RX6, cd_X6_calm, by decide +kernel, ⟨by decide +kernel, by decide +kernel⟩, by decide +kernel⟩, im_X6_calm, se_X6_calm, rfl⟩
theorem lk_RX6_202 : jm_LS RX6 202 YX6_isNear 1 := ⟨⟨(jm_tb_in (List.mem_of_getElem? (i := 993) (by decide +kernel)) rfl), ini_RX6, cd_X6_isNear, by decide +kernel, ⟨by decide +kernel, by decide +kernel⟩, by decide +kernel⟩, sm_X6_isNear⟩
theorem lk_RL_97 : jm_LV RL 97 YX6_swift 2 5 := ⟨⟨(jm_tb_in (List.mem_of_getElem? (i := 996) (by decide +kernel)) rfl), ini_RX6, cd_X6_swift, by decide +kernel, ⟨by decide +kernel, by decide +kernel⟩, by decide +kernel⟩, im_X6_swift, se_X6_swift, rfl⟩
theorem lk_RX6_205 : jm_LS RX6 205 YX6_ones 1 := ⟨⟨(jm_tb_in (List.mem_of_getElem? (i := 1000) (by decide +kernel)) rfl), ini_RX6, cd_X6_ones, by decide +kernel, ⟨by decide +kernel, by decide +kernel⟩, by decide +kernel⟩, sm_X6_ones⟩
theorem lk_RL_101 : jm_LV RL 101 YX6_stir 3 5 := ⟨⟨(jm_tb_in (List.mem_of_getElem? (i := 1003) (by decide +kernel)) rfl), ini_RX6, cd_X6_stir, by decide +kernel, ⟨by decide +kernel, by decide +kernel⟩, by decide +kernel⟩, im_X6_stir, se_X6_stir, rfl⟩
theorem lk_RL_105 : jm_LV RL 105 YX6_share 2 5 := ⟨⟨(jm_tb_in (List.mem_of_getElem? (i := 1007) (by decide +kernel)) rfl), ini_RX6, cd_X6_share, by decide +kernel, ⟨by decide +kernel, by decide +kernel⟩, by decide +kernel⟩, im_X6_share, se_X6_share, rfl⟩
theorem lk_RL_109 : jm_LV RL 109 YX6_fits 5 5 := ⟨⟨(jm_tb_in (List.mem_of_getElem? (i := 1011) (by decide +kernel)) rfl), ini_RX6, cd_X6_fits, by decide +kernel, ⟨by decide +kernel, by decide +kernel⟩, by decide +kernel⟩, im_X6_fits, se_X6_fits, rfl⟩
theorem lk_RX6_208 : jm_LV RX6 208 YX6_isGone 1 5 := ⟨⟨(jm_tb_in (List.mem_of_getElem? (i := 1015) (by decide +kernel)) rfl), ini_RX6, cd_X6_isGone, by decide +kernel, ⟨by decide +kernel, by decide +kernel⟩, by decide +kernel⟩, im_X6_isGone, se_X6_isGone, rfl⟩
theorem lk_RX6_211 : jm_LV RX6 211 YX6_isSeen 5 5 := ⟨⟨(jm_tb_in (List.mem_of_getElem? (i := 1019) (by decide +kernel)) rfl), ini_RX6, cd_X6_isSeen, by decide +kernel, ⟨by decide +kernel, by decide +kernel⟩, by decide +kernel⟩, im_X6_isSeen, se_X6_isSeen, rfl⟩
theorem lk_RL_114 : jm_LV RL 114 YX6_chance 4 5 := ⟨⟨(jm_tb_in (List.mem_of_getElem? (i := 1023) (by decide +kernel)) rfl), ini_RX6, cd_X6_chance, by decide +kernel, ⟨by decide +kernel, by decide +kernel⟩, by decide +kernel⟩, im_X6_chance, se_X6_chance, rfl⟩
theorem lk_RL_118 : jm_LV RL 118 YX6_drawn 3 5 := ⟨⟨(jm_tb_in (List.mem_of_getElem? (i := 1027) (by decide +kernel)) rfl), ini_RX6, cd_X6_drawn, by decide +kernel, ⟨by decide +kernel, by decide +kernel⟩, by decide +kernel⟩, im_X6_drawn, se_X6_drawn, rfl⟩
theorem lk_RL_122 : jm_LV RL 122 YX6_image 1 5 := ⟨⟨(jm_tb_in (List.mem_of_getElem? (i := 1036) (by decide +kernel)) rfl), ini_RX6, cd_X6_image, by decide +kernel, ⟨by decide +kernel, by decide +kernel⟩, by decide +kernel⟩, im_X6_image, se_X6_image, rfl⟩
theorem lk_RL_126 : jm_LV RL 126 YX6_restore 1 5 := ⟨⟨(jm_tb_in (List.mem_of_getElem? (i := 1040) (by decide +kernel)) rfl), ini_RX6, cd_X6_restore, by decide +kernel, ⟨by decide +kernel, by decide +kernel⟩, by decide +kernel⟩, im_X6_restore, se_X6_restore, rfl⟩
theorem lk_RL_130 : jm_LV RL 130 YX6_kind 1 5 := ⟨⟨(jm_tb_in (List.mem_of_getElem? (i := 1044) (by decide +kernel)) rfl), ini_RX6, cd_X6_kind, by decide +kernel, ⟨by decide +kernel, by decide +kernel⟩, by decide +kernel⟩, im_X6_kind, se_X6_kind, rfl⟩
theorem lk_RX6_224 : jm_LV RX6 224 YX6_kindIn 1 5 := ⟨⟨(jm_tb_in (List.mem_of_getElem? (i := 1048) (by decide +kernel)) rfl), ini_RX6, cd_X6_kindIn, by decide +kernel, ⟨by decide +kernel, by decide +kernel⟩, by decide +kernel⟩, im_X6_kindIn, se_X6_kindIn, rfl⟩
theorem lk_RL_134 : jm_LV RL 134 YX6_as 2 5 := ⟨⟨(jm_tb_in (List.mem_of_getElem? (i := 1052) (by decide +kernel)) rfl), ini_RX6, cd_X6_as, by decide +kernel, ⟨by decide +kernel, by decide +kernel⟩, by decide +kernel⟩, im_X6_as, se_X6_as, rfl⟩
theorem lk_RL_138 : jm_LV RL 138 YX6_ask 2 5 := ⟨⟨(jm_tb_in (List.mem_of_getElem? (i := 1056) (by decide +kernel)) rfl), ini_RX6, cd_X6_ask, by decide +kernel, ⟨by decide +kernel, by decide +kernel⟩, by decide +kernel⟩, im_X6_ask, se_X6_ask, rfl⟩
theorem lk_RX6_236 : jm_LV RX6 236 YX6_salmonSize 1 5 := ⟨⟨(jm_tb_in (List.mem_of_getElem? (i := 1060) (by decide +kernel)) rfl), ini_RX6, cd_X6_salmonSize, by decide +kernel, ⟨by decide +kernel, by decide +kernel⟩, by decide +kernel⟩, im_X6_salmonSize, se_X6_salmonSize, rfl⟩
theorem lk_RX6_230 : jm_LV RX6 230 YX6_begins 1 5 := ⟨⟨(jm_tb_in (List.mem_of_getElem? (i := 1064) (by decide +kernel)) rfl), ini_RX6, cd_X6_begins, by decide +kernel, ⟨by decide +kernel, by decide +kernel⟩, by decide +kernel⟩, im_X6_begins, se_X6_begins, rfl⟩
theorem lk_RX6_239 : jm_LV RX6 239 YX6_stickSize 1 5 := ⟨⟨(jm_tb_in (List.mem_of_getElem? (i := 1068) (by decide +kernel)) rfl), ini_RX6, cd_X6_stickSize, by decide +kernel, ⟨by decide +kernel, by decide +kernel⟩, by decide +kernel⟩, im_X6_stickSize, se_X6_stickSize, rfl⟩
theorem lk_RX6_233 : jm_LV RX6 233 YX6_stickMark 1 5 := ⟨⟨(jm_tb_in (List.mem_of_getElem? (i := 1072) (by decide +kernel)) rfl), ini_RX6, cd_X6_stickMark, by decide +kernel, ⟨by decide +kernel, by decide +kernel⟩, by decide +kernel⟩, im_X6_stickMark, se_X6_stickMark, rfl⟩
theorem lk_RX6_242 : jm_LV RX6 242 YX6_salmonMark 1 5 := ⟨⟨(jm_tb_in (List.mem_of_getElem? (i := 1076) (by decide +kernel)) rfl), ini_RX6, cd_X6_salmonMark, by decide +kernel, ⟨by decide +kernel, by decide +kernel⟩, by decide +kernel⟩, im_X6_salmonMark, se_X6_salmonMark, rfl⟩
theorem lk_RL_142 : jm_LV RL 142 YX6_trace 1 5 := ⟨⟨(jm_tb_in (List.mem_of_getElem? (i := 1080) (by decide +kernel)) rfl), ini_RX6, cd_X6_trace, by decide +kernel, ⟨by decide +kernel, by decide +kernel⟩, by decide +kernel⟩, im_X6_trace, se_X6_trace, rfl⟩
theorem lk_RL_146 : jm_LV RL 146 YX6_count 1 5 := ⟨⟨(jm_tb_in (List.mem_of_getElem? (i := 1084) (by decide +kernel)) rfl), ini_RX6, cd_X6_count, by decide +kernel, ⟨by decide +kernel, by decide +kernel⟩, by decide +kernel⟩, im_X6_count, se_X6_count, rfl⟩
theorem lk_RL_150 : jm_LV RL 150 YX6_status 0 5 := ⟨⟨(jm_tb_in (List.mem_of_getElem? (i := 1088) (by decide +kernel)) rfl), ini_RX6, cd_X6_status, by decide +kernel, ⟨by decide +kernel, by decide +kernel⟩, by decide +kernel⟩, im_X6_status, se_X6_status, rfl⟩
theorem fin_0 : ∀ w ∈ u_ws RX0 TX0 6, w ∈ jm_tb := by
  intro w hw
  obtain ⟨k, hk, rfl⟩ := List.mem_map.mp hw
  have hk := List.mem_range.mp hk
  match k, hk with
  | 0, _ => exact (jm_tb_in (List.mem_of_getElem? (i := 138) (by decide +kernel)) rfl)
  | 1, _ => exact (jm_tb_in (List.mem_of_getElem? (i := 140) (by decide +kernel)) rfl)
  | 2, _ => exact (jm_tb_in (List.mem_of_getElem? (i := 142) (by decide +kernel)) rfl)
  | 3, _ => exact (jm_tb_in (List.mem_of_getElem? (i := 144) (by decide +kernel)) rfl)
  | 4, _ => exact (jm_tb_in (List.mem_of_getElem? (i := 146) (by decide +kernel)) rfl)
  | 5, _ => exact (jm_tb_in (List.mem_of_getElem? (i := 148) (by decide +kernel)) rfl)
theorem fin_1 : ∀ w ∈ u_ws RX2 TX2 8, w ∈ jm_tb := by
  intro w hw
  obtain ⟨k, hk, rfl⟩ := List.mem_map.mp hw
  have hk := List.mem_range.mp hk
  match k, hk with
  | 0, _ => exact (jm_tb_in (List.mem_of_getElem? (i := 182) (by decide +kernel)) rfl)
  | 1, _ => exact (jm_tb_in (List.mem_of_getElem? (i := 184) (by decide +kernel)) rfl)
  | 2, _ => exact (jm_tb_in (List.mem_of_getElem? (i := 186) (by decide +kernel)) rfl)
  | 3, _ => exact (jm_tb_in (List.mem_of_getElem? (i := 188) (by decide +kernel)) rfl)
  | 4, _ => exact (jm_tb_in (List.mem_of_getElem? (i := 190) (by decide +kernel)) rfl)
  | 5, _ => exact (jm_tb_in (List.mem_of_getElem? (i := 192) (by decide +kernel)) rfl)
  | 6, _ => exact (jm_tb_in (List.mem_of_getElem? (i := 194) (by decide +kernel)) rfl)
  | 7, _ => exact (jm_tb_in (List.mem_of_getElem? (i := 196) (by decide +kernel)) rfl)
theorem fin_2 : ∀ w ∈ u_ws RX3 TX3 3, w ∈ jm_tb := by
  intro w hw
  obtain ⟨k, hk, rfl⟩ := List.mem_map.mp hw
  have hk := List.mem_range.mp hk
  match k, hk with
  | 0, _ => exact (jm_tb_in (List.mem_of_getElem? (i := 95) (by decide +kernel)) rfl)
  | 1, _ => exact (jm_tb_in (List.mem_of_getElem? (i := 97) (by decide +kernel)) rfl)
  | 2, _ => exact (jm_tb_in (List.mem_of_getElem? (i := 99) (by decide +kernel)) rfl)
theorem fin_3 : ∀ w ∈ u_ws RX4 TX4 4, w ∈ jm_tb := by
  intro w hw
  obtain ⟨k, hk, rfl⟩ := List.mem_map.mp hw
  have hk := List.mem_range.mp hk
  match k, hk with
  | 0, _ => exact (jm_tb_in (List.mem_of_getElem? (i := 116) (by decide +kernel)) rfl)
  | 1, _ => exact (jm_tb_in (List.mem_of_getElem? (i := 118) (by decide +kernel)) rfl)
  | 2, _ => exact (jm_tb_in (List.mem_of_getElem? (i := 120) (by decide +kernel)) rfl)
  | 3, _ => exact (jm_tb_in (List.mem_of_getElem? (i := 122) (by decide +kernel)) rfl)
theorem fin_4 : ∀ w ∈ u_ws RX5 TX5 10, w ∈ jm_tb := by
  intro w hw
  obtain ⟨k, hk, rfl⟩ := List.mem_map.mp hw
  have hk := List.mem_range.mp hk
  match k, hk with
  | 0, _ => exact (jm_tb_in (List.mem_of_getElem? (i := 210) (by decide +kernel)) rfl)
  | 1, _ => exact (jm_tb_in (List.mem_of_getElem? (i := 212) (by decide +kernel)) rfl)
  | 2, _ => exact (jm_tb_in (List.mem_of_getElem? (i := 214) (by decide +kernel)) rfl)
  | 3, _ => exact (jm_tb_in (List.mem_of_getElem? (i := 216) (by decide +kernel)) rfl)
  | 4, _ => exact (jm_tb_in (List.mem_of_getElem? (i := 218) (by decide +kernel)) rfl)
  | 5, _ => exact (jm_tb_in (List.mem_of_getElem? (i := 220) (by decide +kernel)) rfl)
  | 6, _ => exact (jm_tb_in (List.mem_of_getElem? (i := 222) (by decide +kernel)) rfl)
  | 7, _ => exact (jm_tb_in (List.mem_of_getElem? (i := 224) (by decide +kernel)) rfl)
  | 8, _ => exact (jm_tb_in (List.mem_of_getElem? (i := 226) (by decide +kernel)) rfl)
  | 9, _ => exact (jm_tb_in (List.mem_of_getElem? (i := 228) (by decide +kernel)) rfl)
theorem fin_5 : ∀ w ∈ u_ws RX6 TX6 22, w ∈ jm_tb := by
  intro w hw
  obtain ⟨k, hk, rfl⟩ := List.mem_map.mp hw
  have hk := List.mem_range.mp hk
  match k, hk with
  | 0, _ => exact (jm_tb_in (List.mem_of_getElem? (i := 742) (by decide +kernel)) rfl)
  | 1, _ => exact (jm_tb_in (List.mem_of_getElem? (i := 744) (by decide +kernel)) rfl)
  | 2, _ => exact (jm_tb_in (List.mem_of_getElem? (i := 746) (by decide +kernel)) rfl)
  | 3, _ => exact (jm_tb_in (List.mem_of_getElem? (i := 748) (by decide +kernel)) rfl)
  | 4, _ => exact (jm_tb_in (List.mem_of_getElem? (i := 750) (by decide +kernel)) rfl)
  | 5, _ => exact (jm_tb_in (List.mem_of_getElem? (i := 752) (by decide +kernel)) rfl)
  | 6, _ => exact (jm_tb_in (List.mem_of_getElem? (i := 754) (by decide +kernel)) rfl)
  | 7, _ => exact (jm_tb_in (List.mem_of_getElem? (i := 756) (by decide +kernel)) rfl)
  | 8, _ => exact (jm_tb_in (List.mem_of_getElem? (i := 758) (by decide +kernel)) rfl)
  | 9, _ => exact (jm_tb_in (List.mem_of_getElem? (i := 760) (by decide +kernel)) rfl)
  | 10, _ => exact (jm_tb_in (List.mem_of_getElem? (i := 762) (by decide +kernel)) rfl)
  | 11, _ => exact (jm_tb_in (List.mem_of_getElem? (i := 764) (by decide +kernel)) rfl)
  | 12, _ => exact (jm_tb_in (List.mem_of_getElem? (i := 766) (by decide +kernel)) rfl)
  | 13, _ => exact (jm_tb_in (List.mem_of_getElem? (i := 768) (by decide +kernel)) rfl)
  | 14, _ => exact (jm_tb_in (List.mem_of_getElem? (i := 770) (by decide +kernel)) rfl)
  | 15, _ => exact (jm_tb_in (List.mem_of_getElem? (i := 772) (by decide +kernel)) rfl)
  | 16, _ => exact (jm_tb_in (List.mem_of_getElem? (i := 774) (by decide +kernel)) rfl)
  | 17, _ => exact (jm_tb_in (List.mem_of_getElem? (i := 776) (by decide +kernel)) rfl)
  | 18, _ => exact (jm_tb_in (List.mem_of_getElem? (i := 778) (by decide +kernel)) rfl)
  | 19, _ => exact (jm_tb_in (List.mem_of_getElem? (i := 780) (by decide +kernel)) rfl)
  | 20, _ => exact (jm_tb_in (List.mem_of_getElem? (i := 782) (by decide +kernel)) rfl)
  | 21, _ => exact (jm_tb_in (List.mem_of_getElem? (i := 784) (by decide +kernel)) rfl)
  | k + 22, hk => exact absurd hk (by omega)
theorem fr_RX3_11 : jm_F RX3 11 2 0 := ⟨RX3, TX3, 3, rfl, by decide, rfl, (jm_tb_in (List.mem_of_getElem? (i := 91) (by decide +kernel)) rfl), fin_2⟩
theorem fr_RX5_216 : jm_F RX5 216 2 0 := ⟨RX3, TX3, 3, rfl, by decide, rfl, (jm_tb_in (List.mem_of_getElem? (i := 92) (by decide +kernel)) rfl), fin_2⟩
theorem fr_RX3_14 : jm_F RX3 14 2 1 := ⟨RX3, TX3, 3, rfl, by decide, rfl, (jm_tb_in (List.mem_of_getElem? (i := 93) (by decide +kernel)) rfl), fin_2⟩
theorem fr_RX3_18 : jm_F RX3 18 2 2 := ⟨RX3, TX3, 3, rfl, by decide, rfl, (jm_tb_in (List.mem_of_getElem? (i := 94) (by decide +kernel)) rfl), fin_2⟩
theorem fr_RX4_9 : jm_F RX4 9 3 0 := ⟨RX4, TX4, 4, rfl, by decide, rfl, (jm_tb_in (List.mem_of_getElem? (i := 109) (by decide +kernel)) rfl), fin_3⟩
theorem fw_RX4_13 : jm_FW RX4 13 3 1 := ⟨RX4, TX4, 4, tyX4, rfl, by decide, rfl, (jm_tb_in (List.mem_of_getElem? (i := 110) (by decide +kernel)) rfl), fin_3, rfl, by decide +kernel, tyX4_ok, nmX4⟩
theorem fw_RX5_285 : jm_FW RX5 285 3 1 := ⟨RX4, TX4, 4, tyX4, rfl, by decide, rfl, (jm_tb_in (List.mem_of_getElem? (i := 111) (by decide +kernel)) rfl), fin_3, rfl, by decide +kernel, tyX4_ok, nmX4⟩
theorem fw_RX4_17 : jm_FW RX4 17 3 2 := ⟨RX4, TX4, 4, tyX4, rfl, by decide, rfl, (jm_tb_in (List.mem_of_getElem? (i := 112) (by decide +kernel)) rfl), fin_3, rfl, by decide +kernel, tyX4_ok, nmX4⟩
theorem fw_RX5_117 : jm_FW RX5 117 3 2 := ⟨RX4, TX4, 4, tyX4, rfl, by decide, rfl, (jm_tb_in (List.mem_of_getElem? (i := 113) (by decide +kernel)) rfl), fin_3, rfl, by decide +kernel, tyX4_ok, nmX4⟩
theorem fw_RX4_20 : jm_FW RX4 20 3 3 := ⟨RX4, TX4, 4, tyX4, rfl, by decide, rfl, (jm_tb_in (List.mem_of_getElem? (i := 114) (by decide +kernel)) rfl), fin_3, rfl, by decide +kernel, tyX4_ok, nmX4⟩
theorem fw_RX5_130 : jm_FW RX5 130 3 3 := ⟨RX4, TX4, 4, tyX4, rfl, by decide, rfl, (jm_tb_in (List.mem_of_getElem? (i := 115) (by decide +kernel)) rfl), fin_3, rfl, by decide +kernel, tyX4_ok, nmX4⟩
theorem fr_RX0_9 : jm_F RX0 9 0 0 := ⟨RX0, TX0, 6, rfl, by decide, rfl, (jm_tb_in (List.mem_of_getElem? (i := 131) (by decide +kernel)) rfl), fin_0⟩
theorem fr_RX5_276 : jm_F RX5 276 0 0 := ⟨RX0, TX0, 6, rfl, by decide, rfl, (jm_tb_in (List.mem_of_getElem? (i := 132) (by decide +kernel)) rfl), fin_0⟩
theorem fw_RX0_13 : jm_FW RX0 13 0 1 := ⟨RX0, TX0, 6, tyX0, rfl, by decide, rfl, (jm_tb_in (List.mem_of_getElem? (i := 133) (by decide +kernel)) rfl), fin_0, rfl, by decide +kernel, tyX0_ok, nmX0⟩
theorem fw_RX0_17 : jm_FW RX0 17 0 2 := ⟨RX0, TX0, 6, tyX0, rfl, by decide, rfl, (jm_tb_in (List.mem_of_getElem? (i := 134) (by decide +kernel)) rfl), fin_0, rfl, by decide +kernel, tyX0_ok, nmX0⟩
theorem fw_RX0_22 : jm_FW RX0 22 0 3 := ⟨RX0, TX0, 6, tyX0, rfl, by decide, rfl, (jm_tb_in (List.mem_of_getElem? (i := 135) (by decide +kernel)) rfl), fin_0, rfl, by decide +kernel, tyX0_ok, nmX0⟩
theorem fw_RX0_25 : jm_FW RX0 25 0 4 := ⟨RX0, TX0, 6, tyX0, rfl, by decide, rfl, (jm_tb_in (List.mem_of_getElem? (i := 136) (by decide +kernel)) rfl), fin_0, rfl, by decide +kernel, tyX0_ok, nmX0⟩
theorem fw_RX0_28 : jm_FW RX0 28 0 5 := ⟨RX0, TX0, 6, tyX0, rfl, by decide, rfl, (jm_tb_in (List.mem_of_getElem? (i := 137) (by decide +kernel)) rfl), fin_0, rfl, by decide +kernel, tyX0_ok, nmX0⟩
theorem fw_RX2_9 : jm_FW RX2 9 1 0 := ⟨RX2, TX2, 8, tyX2, rfl, by decide, rfl, (jm_tb_in (List.mem_of_getElem? (i := 157) (by decide +kernel)) rfl), fin_1, rfl, by decide +kernel, tyX2_ok, nmX2⟩
theorem fw_RX5_127 : jm_FW RX5 127 1 0 := ⟨RX2, TX2, 8, tyX2, rfl, by decide, rfl, (jm_tb_in (List.mem_of_getElem? (i := 158) (by decide +kernel)) rfl), fin_1, rfl, by decide +kernel, tyX2_ok, nmX2⟩
theorem fw_RX4_65 : jm_FW RX4 65 1 0 := ⟨RX2, TX2, 8, tyX2, rfl, by decide, rfl, (jm_tb_in (List.mem_of_getElem? (i := 159) (by decide +kernel)) rfl), fin_1, rfl, by decide +kernel, tyX2_ok, nmX2⟩
theorem fw_RX2_15 : jm_FW RX2 15 1 1 := ⟨RX2, TX2, 8, tyX2, rfl, by decide, rfl, (jm_tb_in (List.mem_of_getElem? (i := 160) (by decide +kernel)) rfl), fin_1, rfl, by decide +kernel, tyX2_ok, nmX2⟩
theorem fw_RX4_80 : jm_FW RX4 80 1 1 := ⟨RX2, TX2, 8, tyX2, rfl, by decide, rfl, (jm_tb_in (List.mem_of_getElem? (i := 161) (by decide +kernel)) rfl), fin_1, rfl, by decide +kernel, tyX2_ok, nmX2⟩
theorem fw_RX5_204 : jm_FW RX5 204 1 1 := ⟨RX2, TX2, 8, tyX2, rfl, by decide, rfl, (jm_tb_in (List.mem_of_getElem? (i := 162) (by decide +kernel)) rfl), fin_1, rfl, by decide +kernel, tyX2_ok, nmX2⟩
theorem fw_RX2_18 : jm_FW RX2 18 1 2 := ⟨RX2, TX2, 8, tyX2, rfl, by decide, rfl, (jm_tb_in (List.mem_of_getElem? (i := 163) (by decide +kernel)) rfl), fin_1, rfl, by decide +kernel, tyX2_ok, nmX2⟩
theorem fw_RX4_49 : jm_FW RX4 49 1 2 := ⟨RX2, TX2, 8, tyX2, rfl, by decide, rfl, (jm_tb_in (List.mem_of_getElem? (i := 164) (by decide +kernel)) rfl), fin_1, rfl, by decide +kernel, tyX2_ok, nmX2⟩
theorem fw_RX5_282 : jm_FW RX5 282 1 2 := ⟨RX2, TX2, 8, tyX2, rfl, by decide, rfl, (jm_tb_in (List.mem_of_getElem? (i := 165) (by decide +kernel)) rfl), fin_1, rfl, by decide +kernel, tyX2_ok, nmX2⟩
theorem fw_RX2_21 : jm_FW RX2 21 1 3 := ⟨RX2, TX2, 8, tyX2, rfl, by decide, rfl, (jm_tb_in (List.mem_of_getElem? (i := 166) (by decide +kernel)) rfl), fin_1, rfl, by decide +kernel, tyX2_ok, nmX2⟩
theorem fw_RX4_46 : jm_FW RX4 46 1 3 := ⟨RX2, TX2, 8, tyX2, rfl, by decide, rfl, (jm_tb_in (List.mem_of_getElem? (i := 167) (by decide +kernel)) rfl), fin_1, rfl, by decide +kernel, tyX2_ok, nmX2⟩
theorem fw_RX5_170 : jm_FW RX5 170 1 3 := ⟨RX2, TX2, 8, tyX2, rfl, by decide, rfl, (jm_tb_in (List.mem_of_getElem? (i := 168) (by decide +kernel)) rfl), fin_1, rfl, by decide +kernel, tyX2_ok, nmX2⟩
theorem fw_RX2_24 : jm_FW RX2 24 1 4 := ⟨RX2, TX2, 8, tyX2, rfl, by decide, rfl, (jm_tb_in (List.mem_of_getElem? (i := 169) (by decide +kernel)) rfl), fin_1, rfl, by decide +kernel, tyX2_ok, nmX2⟩
theorem fw_RX5_137 : jm_FW RX5 137 1 4 := ⟨RX2, TX2, 8, tyX2, rfl, by decide, rfl, (jm_tb_in (List.mem_of_getElem? (i := 170) (by decide +kernel)) rfl), fin_1, rfl, by decide +kernel, tyX2_ok, nmX2⟩
theorem fr_RX2_27 : jm_F RX2 27 1 5 := ⟨RX2, TX2, 8, rfl, by decide, rfl, (jm_tb_in (List.mem_of_getElem? (i := 171) (by decide +kernel)) rfl), fin_1⟩
theorem fr_RX4_62 : jm_F RX4 62 1 5 := ⟨RX2, TX2, 8, rfl, by decide, rfl, (jm_tb_in (List.mem_of_getElem? (i := 172) (by decide +kernel)) rfl), fin_1⟩
theorem fr_RX5_167 : jm_F RX5 167 1 5 := ⟨RX2, TX2, 8, rfl, by decide, rfl, (jm_tb_in (List.mem_of_getElem? (i := 173) (by decide +kernel)) rfl), fin_1⟩
theorem fr_RX2_31 : jm_F RX2 31 1 6 := ⟨RX2, TX2, 8, rfl, by decide, rfl, (jm_tb_in (List.mem_of_getElem? (i := 174) (by decide +kernel)) rfl), fin_1⟩
theorem fr_RX0_31 : jm_F RX0 31 1 6 := ⟨RX2, TX2, 8, rfl, by decide, rfl, (jm_tb_in (List.mem_of_getElem? (i := 175) (by decide +kernel)) rfl), fin_1⟩
theorem fr_RX4_77 : jm_F RX4 77 1 6 := ⟨RX2, TX2, 8, rfl, by decide, rfl, (jm_tb_in (List.mem_of_getElem? (i := 176) (by decide +kernel)) rfl), fin_1⟩
theorem fr_RX5_255 : jm_F RX5 255 1 6 := ⟨RX2, TX2, 8, rfl, by decide, rfl, (jm_tb_in (List.mem_of_getElem? (i := 177) (by decide +kernel)) rfl), fin_1⟩
theorem fr_RX2_34 : jm_F RX2 34 1 7 := ⟨RX2, TX2, 8, rfl, by decide, rfl, (jm_tb_in (List.mem_of_getElem? (i := 178) (by decide +kernel)) rfl), fin_1⟩
theorem fr_RX0_36 : jm_F RX0 36 1 7 := ⟨RX2, TX2, 8, rfl, by decide, rfl, (jm_tb_in (List.mem_of_getElem? (i := 179) (by decide +kernel)) rfl), fin_1⟩
theorem fr_RX5_159 : jm_F RX5 159 1 7 := ⟨RX2, TX2, 8, rfl, by decide, rfl, (jm_tb_in (List.mem_of_getElem? (i := 180) (by decide +kernel)) rfl), fin_1⟩
theorem fr_RX4_83 : jm_F RX4 83 1 7 := ⟨RX2, TX2, 8, rfl, by decide, rfl, (jm_tb_in (List.mem_of_getElem? (i := 181) (by decide +kernel)) rfl), fin_1⟩
theorem fr_RX5_10 : jm_F RX5 10 4 0 := ⟨RX5, TX5, 10, rfl, by decide, rfl, (jm_tb_in (List.mem_of_getElem? (i := 200) (by decide +kernel)) rfl), fin_4⟩
theorem fr_RX5_19 : jm_F RX5 19 4 1 := ⟨RX5, TX5, 10, rfl, by decide, rfl, (jm_tb_in (List.mem_of_getElem? (i := 201) (by decide +kernel)) rfl), fin_4⟩
theorem fr_RX5_26 : jm_F RX5 26 4 2 := ⟨RX5, TX5, 10, rfl, by decide, rfl, (jm_tb_in (List.mem_of_getElem? (i := 202) (by decide +kernel)) rfl), fin_4⟩
theorem fr_RX5_33 : jm_F RX5 33 4 3 := ⟨RX5, TX5, 10, rfl, by decide, rfl, (jm_tb_in (List.mem_of_getElem? (i := 203) (by decide +kernel)) rfl), fin_4⟩
theorem fr_RX5_37 : jm_F RX5 37 4 4 := ⟨RX5, TX5, 10, rfl, by decide, rfl, (jm_tb_in (List.mem_of_getElem? (i := 204) (by decide +kernel)) rfl), fin_4⟩
theorem fr_RX5_40 : jm_F RX5 40 4 5 := ⟨RX5, TX5, 10, rfl, by decide, rfl, (jm_tb_in (List.mem_of_getElem? (i := 205) (by decide +kernel)) rfl), fin_4⟩
theorem fr_RX5_44 : jm_F RX5 44 4 6 := ⟨RX5, TX5, 10, rfl, by decide, rfl, (jm_tb_in (List.mem_of_getElem? (i := 206) (by decide +kernel)) rfl), fin_4⟩
theorem fw_RX5_47 : jm_FW RX5 47 4 7 := ⟨RX5, TX5, 10, tyX5, rfl, by decide, rfl, (jm_tb_in (List.mem_of_getElem? (i := 207) (by decide +kernel)) rfl), fin_4, rfl, by decide +kernel, tyX5_ok, nmX5⟩
theorem fw_RX5_51 : jm_FW RX5 51 4 8 := ⟨RX5, TX5, 10, tyX5, rfl, by decide, rfl, (jm_tb_in (List.mem_of_getElem? (i := 208) (by decide +kernel)) rfl), fin_4, rfl, by decide +kernel, tyX5_ok, nmX5⟩
theorem fw_RX5_54 : jm_FW RX5 54 4 9 := ⟨RX5, TX5, 10, tyX5, rfl, by decide, rfl, (jm_tb_in (List.mem_of_getElem? (i := 209) (by decide +kernel)) rfl), fin_4, rfl, by decide +kernel, tyX5_ok, nmX5⟩
theorem ab_RX1_7 : Cond.fieldLink RX1 7 "WeirWords$Kinds" "ABOVE" "[I" ∈ jm_tb := (jm_tb_in (List.mem_of_getElem? (i := 423) (by decide +kernel)) rfl)
theorem fr_RX6_7 : jm_F RX6 7 5 0 := ⟨RX6, TX6, 22, rfl, by decide, rfl, (jm_tb_in (List.mem_of_getElem? (i := 720) (by decide +kernel)) rfl), fin_5⟩
theorem fr_RX6_13 : jm_F RX6 13 5 1 := ⟨RX6, TX6, 22, rfl, by decide, rfl, (jm_tb_in (List.mem_of_getElem? (i := 721) (by decide +kernel)) rfl), fin_5⟩
theorem fr_RX6_16 : jm_F RX6 16 5 2 := ⟨RX6, TX6, 22, rfl, by decide, rfl, (jm_tb_in (List.mem_of_getElem? (i := 722) (by decide +kernel)) rfl), fin_5⟩
theorem fr_RX6_19 : jm_F RX6 19 5 3 := ⟨RX6, TX6, 22, rfl, by decide, rfl, (jm_tb_in (List.mem_of_getElem? (i := 723) (by decide +kernel)) rfl), fin_5⟩
theorem fw_RX6_48 : jm_FW RX6 48 5 4 := ⟨RX6, TX6, 22, tyX6, rfl, by decide, rfl, (jm_tb_in (List.mem_of_getElem? (i := 724) (by decide +kernel)) rfl), fin_5, rfl, by decide +kernel, tyX6_ok, nmX6⟩
theorem fr_RX6_22 : jm_F RX6 22 5 5 := ⟨RX6, TX6, 22, rfl, by decide, rfl, (jm_tb_in (List.mem_of_getElem? (i := 725) (by decide +kernel)) rfl), fin_5⟩
theorem fw_RX6_79 : jm_FW RX6 79 5 6 := ⟨RX6, TX6, 22, tyX6, rfl, by decide, rfl, (jm_tb_in (List.mem_of_getElem? (i := 726) (by decide +kernel)) rfl), fin_5, rfl, by decide +kernel, tyX6_ok, nmX6⟩
theorem fw_RX6_105 : jm_FW RX6 105 5 7 := ⟨RX6, TX6, 22, tyX6, rfl, by decide, rfl, (jm_tb_in (List.mem_of_getElem? (i := 727) (by decide +kernel)) rfl), fin_5, rfl, by decide +kernel, tyX6_ok, nmX6⟩
theorem fw_RX6_98 : jm_FW RX6 98 5 8 := ⟨RX6, TX6, 22, tyX6, rfl, by decide, rfl, (jm_tb_in (List.mem_of_getElem? (i := 728) (by decide +kernel)) rfl), fin_5, rfl, by decide +kernel, tyX6_ok, nmX6⟩
theorem fw_RX6_83 : jm_FW RX6 83 5 9 := ⟨RX6, TX6, 22, tyX6, rfl, by decide, rfl, (jm_tb_in (List.mem_of_getElem? (i := 729) (by decide +kernel)) rfl), fin_5, rfl, by decide +kernel, tyX6_ok, nmX6⟩
theorem fw_RX6_86 : jm_FW RX6 86 5 10 := ⟨RX6, TX6, 22, tyX6, rfl, by decide, rfl, (jm_tb_in (List.mem_of_getElem? (i := 730) (by decide +kernel)) rfl), fin_5, rfl, by decide +kernel, tyX6_ok, nmX6⟩
theorem fw_RX6_95 : jm_FW RX6 95 5 11 := ⟨RX6, TX6, 22, tyX6, rfl, by decide, rfl, (jm_tb_in (List.mem_of_getElem? (i := 731) (by decide +kernel)) rfl), fin_5, rfl, by decide +kernel, tyX6_ok, nmX6⟩
theorem fw_RX6_92 : jm_FW RX6 92 5 12 := ⟨RX6, TX6, 22, tyX6, rfl, by decide, rfl, (jm_tb_in (List.mem_of_getElem? (i := 732) (by decide +kernel)) rfl), fin_5, rfl, by decide +kernel, tyX6_ok, nmX6⟩
theorem fr_RX6_25 : jm_F RX6 25 5 13 := ⟨RX6, TX6, 22, rfl, by decide, rfl, (jm_tb_in (List.mem_of_getElem? (i := 733) (by decide +kernel)) rfl), fin_5⟩
theorem fr_RX6_28 : jm_F RX6 28 5 14 := ⟨RX6, TX6, 22, rfl, by decide, rfl, (jm_tb_in (List.mem_of_getElem? (i := 734) (by decide +kernel)) rfl), fin_5⟩
theorem fr_RX6_31 : jm_F RX6 31 5 15 := ⟨RX6, TX6, 22, rfl, by decide, rfl, (jm_tb_in (List.mem_of_getElem? (i := 735) (by decide +kernel)) rfl), fin_5⟩
theorem fr_RX6_34 : jm_F RX6 34 5 16 := ⟨RX6, TX6, 22, rfl, by decide, rfl, (jm_tb_in (List.mem_of_getElem? (i := 736) (by decide +kernel)) rfl), fin_5⟩
theorem fw_RX6_139 : jm_FW RX6 139 5 17 := ⟨RX6, TX6, 22, tyX6, rfl, by decide, rfl, (jm_tb_in (List.mem_of_getElem? (i := 737) (by decide +kernel)) rfl), fin_5, rfl, by decide +kernel, tyX6_ok, nmX6⟩
theorem fr_RX6_37 : jm_F RX6 37 5 18 := ⟨RX6, TX6, 22, rfl, by decide, rfl, (jm_tb_in (List.mem_of_getElem? (i := 738) (by decide +kernel)) rfl), fin_5⟩
theorem fr_RX6_40 : jm_F RX6 40 5 19 := ⟨RX6, TX6, 22, rfl, by decide, rfl, (jm_tb_in (List.mem_of_getElem? (i := 739) (by decide +kernel)) rfl), fin_5⟩
theorem fr_RX6_44 : jm_F RX6 44 5 20 := ⟨RX6, TX6, 22, rfl, by decide, rfl, (jm_tb_in (List.mem_of_getElem? (i := 740) (by decide +kernel)) rfl), fin_5⟩
theorem fw_RX6_227 : jm_FW RX6 227 5 21 := ⟨RX6, TX6, 22, tyX6, rfl, by decide, rfl, (jm_tb_in (List.mem_of_getElem? (i := 741) (by decide +kernel)) rfl), fin_5, rfl, by decide +kernel, tyX6_ok, nmX6⟩
theorem kc_RX5_64 : Cond.constant RX5 64 (-1000001) ∈ jm_tb := (jm_tb_in (List.mem_of_getElem? (i := 241) (by decide +kernel)) rfl)
theorem kc_RX5_288 : Cond.constant RX5 288 (-1000010) ∈ jm_tb := (jm_tb_in (List.mem_of_getElem? (i := 246) (by decide +kernel)) rfl)
theorem kc_RX5_105 : Cond.constant RX5 105 (-1000003) ∈ jm_tb := (jm_tb_in (List.mem_of_getElem? (i := 305) (by decide +kernel)) rfl)
theorem kc_RX5_116 : Cond.constant RX5 116 (-1000100) ∈ jm_tb := (jm_tb_in (List.mem_of_getElem? (i := 372) (by decide +kernel)) rfl)
theorem kc_RX5_136 : Cond.constant RX5 136 (-1000002) ∈ jm_tb := (jm_tb_in (List.mem_of_getElem? (i := 394) (by decide +kernel)) rfl)
theorem kc_RX5_210 : Cond.constant RX5 210 (-1000000) ∈ jm_tb := (jm_tb_in (List.mem_of_getElem? (i := 483) (by decide +kernel)) rfl)
theorem kc_RX2_82 : Cond.constant RX2 82 (-1000000) ∈ jm_tb := (jm_tb_in (List.mem_of_getElem? (i := 520) (by decide +kernel)) rfl)
theorem kc_RJ6_265 : Cond.constant RJ6 265 (1431655765) ∈ jm_tb := (jm_tb_in (List.mem_of_getElem? (i := 544) (by decide +kernel)) rfl)
theorem kc_RJ6_266 : Cond.constant RJ6 266 (858993459) ∈ jm_tb := (jm_tb_in (List.mem_of_getElem? (i := 545) (by decide +kernel)) rfl)
theorem kc_RJ6_267 : Cond.constant RJ6 267 (252645135) ∈ jm_tb := (jm_tb_in (List.mem_of_getElem? (i := 546) (by decide +kernel)) rfl)
theorem kc_RX5_245 : Cond.constant RX5 245 (999999) ∈ jm_tb := (jm_tb_in (List.mem_of_getElem? (i := 613) (by decide +kernel)) rfl)
theorem kc_RX6_47 : Cond.constant RX6 47 (-1000000) ∈ jm_tb := (jm_tb_in (List.mem_of_getElem? (i := 719) (by decide +kernel)) rfl)
theorem kc_RX6_61 : Cond.constant RX6 61 (-1000001) ∈ jm_tb := (jm_tb_in (List.mem_of_getElem? (i := 798) (by decide +kernel)) rfl)
theorem kc_RX6_52 : Cond.constant RX6 52 (-1000010) ∈ jm_tb := (jm_tb_in (List.mem_of_getElem? (i := 803) (by decide +kernel)) rfl)
theorem kc_RX6_82 : Cond.constant RX6 82 (-1000003) ∈ jm_tb := (jm_tb_in (List.mem_of_getElem? (i := 835) (by decide +kernel)) rfl)
theorem kc_RX6_134 : Cond.constant RX6 134 (-1000100) ∈ jm_tb := (jm_tb_in (List.mem_of_getElem? (i := 879) (by decide +kernel)) rfl)
theorem kc_RX6_164 : Cond.constant RX6 164 (-1000002) ∈ jm_tb := (jm_tb_in (List.mem_of_getElem? (i := 895) (by decide +kernel)) rfl)
theorem kc_RX6_215 : Cond.constant RX6 215 (999999) ∈ jm_tb := (jm_tb_in (List.mem_of_getElem? (i := 1031) (by decide +kernel)) rfl)
theorem kl_RX5_246 : Cond.constantLong RX5 246 (16807) ∈ jm_tb := (jm_tb_in (List.mem_of_getElem? (i := 614) (by decide +kernel)) rfl)
theorem kl_RX5_248 : Cond.constantLong RX5 248 (2147483647) ∈ jm_tb := (jm_tb_in (List.mem_of_getElem? (i := 615) (by decide +kernel)) rfl)
theorem kl_RX5_250 : Cond.constantLong RX5 250 (16) ∈ jm_tb := (jm_tb_in (List.mem_of_getElem? (i := 616) (by decide +kernel)) rfl)
theorem kl_RX6_216 : Cond.constantLong RX6 216 (16807) ∈ jm_tb := (jm_tb_in (List.mem_of_getElem? (i := 1032) (by decide +kernel)) rfl)
theorem kl_RX6_218 : Cond.constantLong RX6 218 (2147483647) ∈ jm_tb := (jm_tb_in (List.mem_of_getElem? (i := 1033) (by decide +kernel)) rfl)
theorem kl_RX6_220 : Cond.constantLong RX6 220 (16) ∈ jm_tb := (jm_tb_in (List.mem_of_getElem? (i := 1034) (by decide +kernel)) rfl)
theorem kl_RX6_222 : Cond.constantLong RX6 222 (60) ∈ jm_tb := (jm_tb_in (List.mem_of_getElem? (i := 1035) (by decide +kernel)) rfl)
theorem acw : Cond.native arraycopyName ∈ jm_tb ∧ Cond.static arraycopyName ∈ jm_tb ∧ Cond.initialized "java/lang/System" ∈ jm_tb := ⟨(jm_tb_in (List.mem_of_getElem? (i := 285) (by decide +kernel)) rfl), (jm_tb_in (List.mem_of_getElem? (i := 284) (by decide +kernel)) rfl), (jm_tb_in (List.mem_of_getElem? (i := 68) (by decide +kernel)) rfl)⟩
end
section
/-! the same rules over numbers nI n; calls by how many arguments; rivers by their number -/
theorem jm_obR {a : Nat} (h : a < 28) : jm_ob (32 + 4 * a) = some (1, 8) := by
  unfold jm_ob
  rw [if_neg (by omega), if_pos (by omega)]
theorem jm_arR1 {a : Nat} (h : a < 28) : jm_ar (33 + 4 * a) = some (0, 12) := by
  unfold jm_ar
  rw [if_neg (by omega), if_neg (by omega), if_pos (by omega), if_pos (by omega)]
theorem jm_arR2 {a : Nat} (h : a < 28) : jm_ar (34 + 4 * a) = some (0, 7) := by
  unfold jm_ar
  rw [if_neg (by omega), if_neg (by omega), if_pos (by omega), if_neg (by omega), if_neg (by omega)]
theorem jm_arR3 {a : Nat} (h : a < 28) : jm_ar (35 + 4 * a) = some (0, 7) := by
  unfold jm_ar
  rw [if_neg (by omega), if_neg (by omega), if_pos (by omega), if_neg (by omega), if_neg (by omega)]
theorem jm_arI {r : Nat} (h : r < 8) : jm_ar (24 + r) = some (0, 40) := by
  unfold jm_ar
  rw [if_neg (by omega), if_pos (by omega)]
theorem jm_rf0 {a : Nat} : jm_rf (32 + 4 * a) 0 = none := by unfold jm_rf; rw [if_neg (by omega)]; rfl
theorem jm_rf1 {a : Nat} : jm_rf (32 + 4 * a) 1 = none := by unfold jm_rf; rw [if_neg (by omega)]; rfl
theorem jm_rf2 {a : Nat} : jm_rf (32 + 4 * a) 2 = none := by unfold jm_rf; rw [if_neg (by omega)]; rfl
theorem jm_rf3 {a : Nat} : jm_rf (32 + 4 * a) 3 = none := by unfold jm_rf; rw [if_neg (by omega)]; rfl
theorem jm_rf4 {a : Nat} : jm_rf (32 + 4 * a) 4 = none := by unfold jm_rf; rw [if_neg (by omega)]; rfl
theorem jm_rf5 {a : Nat} : jm_rf (32 + 4 * a) 5 = some (33 + 4 * a) := by unfold jm_rf; rw [if_neg (by omega)]; show some _ = _; congr 1; omega
theorem jm_rf6 {a : Nat} : jm_rf (32 + 4 * a) 6 = some (34 + 4 * a) := by unfold jm_rf; rw [if_neg (by omega)]; show some _ = _; congr 1; omega
theorem jm_rf7 {a : Nat} : jm_rf (32 + 4 * a) 7 = some (35 + 4 * a) := by unfold jm_rf; rw [if_neg (by omega)]; show some _ = _; congr 1; omega
theorem jm_cl {k : Nat} (h : k < 2 ^ 31) : (nI k).toNatClampNeg = k := nI_clamp h
theorem jm_ar_sm {i t n : Nat} (h : jm_ar i = some (t, n)) : n < 2 ^ 31 := by
  have hl := jm_ar_lt h
  have key : ∀ i, i < 144 → (jm_ar i).all (fun q => decide (q.2 < 2000)) = true := by decide +kernel
  have := key i hl
  rw [h] at this
  have h2 : n < 2000 := of_decide_eq_true this
  omega
theorem jm_ist_n {sc : jm_S} {Y : jm_Y} {pc : Nat} {ls : jm_Ls} {st : List Value} {M : jm_M} {Q : Option Value → jm_M → Prop} {k0 : Fin 4} {i : Nat} {x : Int32} {ls' : jm_Ls} (d : decode Y.2.1 pc = .ok (.istore_n k0, 1)) (hk : (k0 : Nat) = i) (hi : i < ls.length) (hno : jm_no ls i = true) (hs : jm_st ls i (some (.int x)) = ls') (k : jm_J sc Y (pc + 1) ls' st M Q) : jm_J sc Y pc ls (.int x :: st) M Q := by
  subst hs
  subst hk
  exact jm_istore_n d hi hno k
theorem jm_ild_n {sc : jm_S} {Y : jm_Y} {pc : Nat} {ls : jm_Ls} {st : List Value} {M : jm_M} {Q : Option Value → jm_M → Prop} {k0 : Fin 4} {i : Nat} {x : Int32} (d : decode Y.2.1 pc = .ok (.iload_n k0, 1)) (hk : (k0 : Nat) = i) (hl : ls[i]? = some (some (.int x))) (k : jm_J sc Y (pc + 1) ls (.int x :: st) M Q) : jm_J sc Y pc ls st M Q := by
  subst hk
  exact jm_iload_n d hl k
theorem jm_ist {sc : jm_S} {Y : jm_Y} {pc : Nat} {ls : jm_Ls} {st : List Value} {M : jm_M} {Q : Option Value → jm_M → Prop} {i : Nat} {x : Int32} {ls' : jm_Ls} (d : decode Y.2.1 pc = .ok (.istore i, 2)) (hi : i < ls.length) (hno : jm_no ls i = true) (hs : jm_st ls i (some (.int x)) = ls') (k : jm_J sc Y (pc + 2) ls' st M Q) : jm_J sc Y pc ls (.int x :: st) M Q := by
  subst hs
  exact jm_istore d hi hno k
theorem jm_lst_n {sc : jm_S} {Y : jm_Y} {pc : Nat} {ls : jm_Ls} {st : List Value} {M : jm_M} {Q : Option Value → jm_M → Prop} {k0 : Fin 4} {i : Nat} {x : Int64} {ls' : jm_Ls} (d : decode Y.2.1 pc = .ok (.lstore_n k0, 1)) (hk : (k0 : Nat) = i) (hi : i + 1 < ls.length) (hno : jm_no ls i = true) (hs : jm_st (jm_st ls (i + 1) none) i (some (.long x)) = ls') (k : jm_J sc Y (pc + 1) ls' st M Q) : jm_J sc Y pc ls (.long x :: st) M Q := by
  subst hs
  subst hk
  exact jm_lstore_n d hi hno k
theorem jm_lld_n {sc : jm_S} {Y : jm_Y} {pc : Nat} {ls : jm_Ls} {st : List Value} {M : jm_M} {Q : Option Value → jm_M → Prop} {k0 : Fin 4} {i : Nat} {x : Int64} (d : decode Y.2.1 pc = .ok (.lload_n k0, 1)) (hk : (k0 : Nat) = i) (hl : ls[i]? = some (some (.long x))) (k : jm_J sc Y (pc + 1) ls (.long x :: st) M Q) : jm_J sc Y pc ls st M Q := by
  subst hk
  exact jm_lload_n d hl k
theorem jm_lst {sc : jm_S} {Y : jm_Y} {pc : Nat} {ls : jm_Ls} {st : List Value} {M : jm_M} {Q : Option Value → jm_M → Prop} {i : Nat} {x : Int64} {ls' : jm_Ls} (d : decode Y.2.1 pc = .ok (.lstore i, 2)) (hi : i + 1 < ls.length) (hno : jm_no ls i = true) (hs : jm_st (jm_st ls (i + 1) none) i (some (.long x)) = ls') (k : jm_J sc Y (pc + 2) ls' st M Q) : jm_J sc Y pc ls (.long x :: st) M Q := by
  subst hs
  exact jm_lstore d hi hno k
theorem jm_ast_n {sc : jm_S} {Y : jm_Y} {pc : Nat} {ls : jm_Ls} {st : List Value} {M : jm_M} {Q : Option Value → jm_M → Prop} {k0 : Fin 4} {i : Nat} {x : Nat} {ls' : jm_Ls} (d : decode Y.2.1 pc = .ok (.astore_n k0, 1)) (hk : (k0 : Nat) = i) (hi : i < ls.length) (hno : jm_no ls i = true) (hs : jm_st ls i (some (.ref x)) = ls') (k : jm_J sc Y (pc + 1) ls' st M Q) : jm_J sc Y pc ls (.ref x :: st) M Q := by
  subst hs
  subst hk
  exact jm_astore_n d hi hno k
theorem jm_ald_n {sc : jm_S} {Y : jm_Y} {pc : Nat} {ls : jm_Ls} {st : List Value} {M : jm_M} {Q : Option Value → jm_M → Prop} {k0 : Fin 4} {i : Nat} {x : Nat} (d : decode Y.2.1 pc = .ok (.aload_n k0, 1)) (hk : (k0 : Nat) = i) (hl : ls[i]? = some (some (.ref x))) (k : jm_J sc Y (pc + 1) ls (.ref x :: st) M Q) : jm_J sc Y pc ls st M Q := by
  subst hk
  exact jm_aload_n d hl k
theorem jm_ast {sc : jm_S} {Y : jm_Y} {pc : Nat} {ls : jm_Ls} {st : List Value} {M : jm_M} {Q : Option Value → jm_M → Prop} {i : Nat} {x : Nat} {ls' : jm_Ls} (d : decode Y.2.1 pc = .ok (.astore i, 2)) (hi : i < ls.length) (hno : jm_no ls i = true) (hs : jm_st ls i (some (.ref x)) = ls') (k : jm_J sc Y (pc + 2) ls' st M Q) : jm_J sc Y pc ls (.ref x :: st) M Q := by
  subst hs
  exact jm_astore d hi hno k
theorem jm_inc {sc : jm_S} {Y : jm_Y} {pc : Nat} {ls : jm_Ls} {st : List Value} {M : jm_M} {Q : Option Value → jm_M → Prop} {i : Nat} {n : Int} {x v : Int32} {ls' : jm_Ls} (d : decode Y.2.1 pc = .ok (.iinc i n, 3)) (hl : ls[i]? = some (some (.int x))) (hno : jm_no ls i = true) (hv : x + Int32.ofInt n = v) (hs : jm_st ls i (some (.int v)) = ls') (k : jm_J sc Y (pc + 3) ls' st M Q) : jm_J sc Y pc ls st M Q := by
  subst hs
  subst hv
  exact jm_iinc d hl hno k
theorem jm_icN {sc : jm_S} {Y : jm_Y} {pc : Nat} {ls : jm_Ls} {st : List Value} {M : jm_M} {Q : Option Value → jm_M → Prop} {n : Int} (m : Nat) (d : decode Y.2.1 pc = .ok (.iconst n, 1)) (hv : Int32.ofInt n = nI m) (k : jm_J sc Y (pc + 1) ls (.int (nI m) :: st) M Q) : jm_J sc Y pc ls st M Q := jm_iconst d hv k
theorem jm_bpN {sc : jm_S} {Y : jm_Y} {pc : Nat} {ls : jm_Ls} {st : List Value} {M : jm_M} {Q : Option Value → jm_M → Prop} {n : Int} (m : Nat) (d : decode Y.2.1 pc = .ok (.bipush n, 2)) (hv : (Int8.ofInt n).toInt32 = nI m) (k : jm_J sc Y (pc + 2) ls (.int (nI m) :: st) M Q) : jm_J sc Y pc ls st M Q := jm_bipush d hv k
theorem jm_spN {sc : jm_S} {Y : jm_Y} {pc : Nat} {ls : jm_Ls} {st : List Value} {M : jm_M} {Q : Option Value → jm_M → Prop} {n : Int} (m : Nat) (d : decode Y.2.1 pc = .ok (.sipush n, 3)) (hv : (Int16.ofInt n).toInt32 = nI m) (k : jm_J sc Y (pc + 3) ls (.int (nI m) :: st) M Q) : jm_J sc Y pc ls st M Q := jm_sipush d hv k
theorem jm_addN {sc : jm_S} {Y : jm_Y} {pc : Nat} {ls : jm_Ls} {st : List Value} {M : jm_M} {Q : Option Value → jm_M → Prop} {a b : Nat} (d : decode Y.2.1 pc = .ok (.iadd, 1)) (k : jm_J sc Y (pc + 1) ls (.int (nI (a + b)) :: st) M Q) : jm_J sc Y pc ls (.int (nI b) :: .int (nI a) :: st) M Q := jm_iadd d (by rw [nI_add]; exact k)
theorem jm_subN {sc : jm_S} {Y : jm_Y} {pc : Nat} {ls : jm_Ls} {st : List Value} {M : jm_M} {Q : Option Value → jm_M → Prop} {a b : Nat} (d : decode Y.2.1 pc = .ok (.isub, 1)) (h : b ≤ a) (k : jm_J sc Y (pc + 1) ls (.int (nI (a - b)) :: st) M Q) : jm_J sc Y pc ls (.int (nI b) :: .int (nI a) :: st) M Q := jm_isub d (by rw [pk_sub h]; exact k)
theorem jm_mulN {sc : jm_S} {Y : jm_Y} {pc : Nat} {ls : jm_Ls} {st : List Value} {M : jm_M} {Q : Option Value → jm_M → Prop} {a b : Nat} (d : decode Y.2.1 pc = .ok (.imul, 1)) (k : jm_J sc Y (pc + 1) ls (.int (nI (a * b)) :: st) M Q) : jm_J sc Y pc ls (.int (nI b) :: .int (nI a) :: st) M Q := jm_imul d (by rw [pk_mul]; exact k)
theorem jm_divN {sc : jm_S} {Y : jm_Y} {pc : Nat} {ls : jm_Ls} {st : List Value} {M : jm_M} {Q : Option Value → jm_M → Prop} {a b : Nat} (d : decode Y.2.1 pc = .ok (.idiv, 1)) (ha : a < 2147483648) (h0 : 0 < b) (hb : b < 2147483648) (k : jm_J sc Y (pc + 1) ls (.int (nI (a / b)) :: st) M Q) : jm_J sc Y pc ls (.int (nI b) :: .int (nI a) :: st) M Q := jm_idiv d (nI_ne0 h0 hb) (by rw [pk_div ha h0 hb]; exact k)
theorem jm_remN {sc : jm_S} {Y : jm_Y} {pc : Nat} {ls : jm_Ls} {st : List Value} {M : jm_M} {Q : Option Value → jm_M → Prop} {a b : Nat} (d : decode Y.2.1 pc = .ok (.irem, 1)) (ha : a < 2147483648) (h0 : 0 < b) (hb : b < 2147483648) (k : jm_J sc Y (pc + 1) ls (.int (nI (a % b)) :: st) M Q) : jm_J sc Y pc ls (.int (nI b) :: .int (nI a) :: st) M Q := jm_irem d (nI_ne0 h0 hb) (by rw [pk_rem ha h0 hb]; exact k)
theorem jm_incN {sc : jm_S} {Y : jm_Y} {pc : Nat} {ls : jm_Ls} {st : List Value} {M : jm_M} {Q : Option Value → jm_M → Prop} {i a m : Nat} {n : Int} {ls' : jm_Ls} (d : decode Y.2.1 pc = .ok (.iinc i n, 3)) (hl : ls[i]? = some (some (.int (nI a)))) (hno : jm_no ls i = true) (hv : Int32.ofInt n = nI m) (hs : jm_st ls i (some (.int (nI (a + m)))) = ls') (k : jm_J sc Y (pc + 3) ls' st M Q) : jm_J sc Y pc ls st M Q := jm_inc d hl hno (by rw [hv, nI_add]) hs k
theorem jm_decN {sc : jm_S} {Y : jm_Y} {pc : Nat} {ls : jm_Ls} {st : List Value} {M : jm_M} {Q : Option Value → jm_M → Prop} {i a : Nat} {ls' : jm_Ls} (d : decode Y.2.1 pc = .ok (.iinc i (-1), 3)) (hl : ls[i]? = some (some (.int (nI a)))) (hno : jm_no ls i = true) (ha : 0 < a) (hs : jm_st ls i (some (.int (nI (a - 1)))) = ls') (k : jm_J sc Y (pc + 3) ls' st M Q) : jm_J sc Y pc ls st M Q := jm_inc d hl hno (by have e : Int32.ofInt (-1) = -1 := rfl; rw [e]; obtain ⟨b, rfl⟩ : ∃ b, a = b + 1 := ⟨a - 1, by omega⟩; rw [pk_m1]; rfl) hs k
theorem jm_ialN {sc : jm_S} {Y : jm_Y} {pc : Nat} {ls : jm_Ls} {st : List Value} {M : jm_M} {Q : Option Value → jm_M → Prop} {i n k : Nat} {v : Int32} (d : decode Y.2.1 pc = .ok (.iaload, 1)) (har : jm_ar i = some (0, n)) (hk : k < n) (hv : M i k = v) (kk : jm_J sc Y (pc + 1) ls (.int v :: st) M Q) : jm_J sc Y pc ls (.int (nI k) :: .ref i :: st) M Q := by
  have hn := jm_ar_sm har
  refine jm_iald d har (vp_in_nI hk hn) ?_
  rw [jm_cl (by omega), hv]
  exact kk
theorem jm_zalN {sc : jm_S} {Y : jm_Y} {pc : Nat} {ls : jm_Ls} {st : List Value} {M : jm_M} {Q : Option Value → jm_M → Prop} {i n k : Nat} {v : Int32} (d : decode Y.2.1 pc = .ok (.baload, 1)) (har : jm_ar i = some (1, n)) (hk : k < n) (hv : M i k = v) (kk : jm_J sc Y (pc + 1) ls (.int v :: st) M Q) : jm_J sc Y pc ls (.int (nI k) :: .ref i :: st) M Q := by
  have hn := jm_ar_sm har
  refine jm_zald d har (vp_in_nI hk hn) ?_
  rw [jm_cl (by omega), hv]
  exact kk
theorem jm_iasN {sc : jm_S} {Y : jm_Y} {pc : Nat} {ls : jm_Ls} {st : List Value} {M : jm_M} {Q : Option Value → jm_M → Prop} {i n k : Nat} {v : Int32} (d : decode Y.2.1 pc = .ok (.iastore, 1)) (har : jm_ar i = some (0, n)) (hk : k < n) (kk : jm_J sc Y (pc + 1) ls st (jm_sf M i (upd (M i) k v)) Q) : jm_J sc Y pc ls (.int v :: .int (nI k) :: .ref i :: st) M Q := by
  have hn := jm_ar_sm har
  refine jm_iast d har (vp_in_nI hk hn) ?_
  rw [jm_cl (by omega)]
  exact kk
theorem jm_zasN {sc : jm_S} {Y : jm_Y} {pc : Nat} {ls : jm_Ls} {st : List Value} {M : jm_M} {Q : Option Value → jm_M → Prop} {i n k : Nat} {v : Int32} (d : decode Y.2.1 pc = .ok (.bastore, 1)) (har : jm_ar i = some (1, n)) (hk : k < n) (hv : vp_nar .boolean v = v) (kk : jm_J sc Y (pc + 1) ls st (jm_sf M i (upd (M i) k v)) Q) : jm_J sc Y pc ls (.int v :: .int (nI k) :: .ref i :: st) M Q := by
  have hn := jm_ar_sm har
  refine jm_zast d har (vp_in_nI hk hn) hv ?_
  rw [jm_cl (by omega)]
  exact kk
theorem jm_aalN {sc : jm_S} {Y : jm_Y} {pc : Nat} {ls : jm_Ls} {st : List Value} {M : jm_M} {Q : Option Value → jm_M → Prop} {i t n k j : Nat} (d : decode Y.2.1 pc = .ok (.aaload, 1)) (har : jm_ar i = some (t, n)) (ht : t = 2 ∨ t = 3) (hk : k < n) (hr : jm_rf i k = some j) (kk : jm_J sc Y (pc + 1) ls (.ref j :: st) M Q) : jm_J sc Y pc ls (.int (nI k) :: .ref i :: st) M Q := by
  have hn := jm_ar_sm har
  rcases ht with rfl | rfl
  · exact jm_aald d har (vp_in_nI hk hn) (by rw [jm_cl (by omega)]; exact hr) kk
  · exact jm_aaldI d har (vp_in_nI hk hn) (by rw [jm_cl (by omega)]; exact hr) kk
theorem jm_getE {sc : jm_S} {Y : jm_Y} {pc : Nat} {ls : jm_Ls} {st : List Value} {M : jm_M} {Q : Option Value → jm_M → Prop} {idx ci k i n : Nat} {v : Int32} (d : decode Y.2.1 pc = .ok (.getfield idx, 3)) (F : jm_FW Y.1.cls idx ci k) (hob : jm_ob i = some (ci, n)) (hkn : k < n) (hr : jm_rf i k = none) (hv : M i k = v) (kk : jm_J sc Y (pc + 3) ls (.int v :: st) M Q) : jm_J sc Y pc ls (.ref i :: st) M Q := jm_getI d F.F hob hkn hr (by rw [hv]; exact kk)
theorem jm_mmin {sc : jm_S} {Y : jm_Y} {pc : Nat} {ls : jm_Ls} {st : List Value} {M : jm_M} {Q : Option Value → jm_M → Prop} {idx : Nat} {x y : Int32} (d : decode Y.2.1 pc = .ok (.invokestatic idx, 3)) (h1 : Cond.methodLink Y.1.cls idx YJ9_min_7cf53.1 ∈ jm_tb) (hfr : 1 ≤ Y.2.2.2.2.1) (hlo : (st.map fun v => v.category).sum + 13 ≤ Y.2.2.2.2.2) (kk : jm_J sc Y (pc + 3) ls (.int (if y < x then y else x) :: st) M Q) : jm_J sc Y pc ls (.int y :: .int x :: st) M Q := by
  intro p l e R s m args below meth c cells slots Z A D aC ad C hI hV H locs lsA hP hS hL hz
  obtain ⟨hx, hb, hml, hown, hts, hK, hij, hA, hZ, hT, hR, hC, hsc⟩ := id C
  exact va_mmin hx hb (hml.trans hz.symm) hown (hts _ h1) (hts _ sm_J9_min_7cf53) (hts _ ini_RJ9) (hts _ cd_J9_min_7cf53) (Nat.le_trans hfr hR.1) (Nat.le_trans (by rw [jm_cat_map]; exact hlo) hR.2) hC.1 hC.2 d (kk p l e R s m args below meth c cells slots Z A D aC ad C hI hV H locs lsA hP hS hL hz)
theorem jm_if_eqN {sc : jm_S} {Y : jm_Y} {pc : Nat} {ls : jm_Ls} {st : List Value} {M : jm_M} {Q : Option Value → jm_M → Prop} {a : Nat} {off : Int} {tgt : Nat} (d : decode Y.2.1 pc = .ok (.ifCond .eq off, 3)) (ht : (pc : Int) + off = (tgt : Int)) (ha : a < 2147483648) (kt : a = 0 → jm_J sc Y tgt ls st M Q) (kf : ¬ a = 0 → jm_J sc Y (pc + 3) ls st M Q) : jm_J sc Y pc ls (.int (nI a) :: st) M Q := by
  have e : nI a = 0 ↔ a = 0 := nI_eq (b := 0) ha (by decide)
  have e2 : (0 : Int32) < nI a ↔ 0 < a := nI_ltI (a := 0) (by decide) ha
  have e3 : nI a ≤ 0 ↔ a ≤ 0 := nI_leI (b := 0) ha (by decide)
  refine jm_if_eq d ht (fun h => kt ?_) (fun h => kf ?_)
  · first | exact e.mp h | exact fun q => h (e.mpr q) | exact e2.mp h | exact Nat.le_zero.mp (e3.mp h)
  · first | exact e.mp h | exact fun q => h (e.mpr q) | exact Decidable.byContradiction (fun q => h (fun z => q (e.mp z))) | exact Decidable.byContradiction (fun q => h (e2.mpr (by omega))) | exact Decidable.byContradiction (fun q => h (e3.mpr (by omega)))
theorem jm_if_neN {sc : jm_S} {Y : jm_Y} {pc : Nat} {ls : jm_Ls} {st : List Value} {M : jm_M} {Q : Option Value → jm_M → Prop} {a : Nat} {off : Int} {tgt : Nat} (d : decode Y.2.1 pc = .ok (.ifCond .ne off, 3)) (ht : (pc : Int) + off = (tgt : Int)) (ha : a < 2147483648) (kt : ¬ a = 0 → jm_J sc Y tgt ls st M Q) (kf : a = 0 → jm_J sc Y (pc + 3) ls st M Q) : jm_J sc Y pc ls (.int (nI a) :: st) M Q := by
  have e : nI a = 0 ↔ a = 0 := nI_eq (b := 0) ha (by decide)
  have e2 : (0 : Int32) < nI a ↔ 0 < a := nI_ltI (a := 0) (by decide) ha
  have e3 : nI a ≤ 0 ↔ a ≤ 0 := nI_leI (b := 0) ha (by decide)
  refine jm_if_ne d ht (fun h => kt ?_) (fun h => kf ?_)
  · first | exact e.mp h | exact fun q => h (e.mpr q) | exact e2.mp h | exact Nat.le_zero.mp (e3.mp h)
  · first | exact e.mp h | exact fun q => h (e.mpr q) | exact Decidable.byContradiction (fun q => h (fun z => q (e.mp z))) | exact Decidable.byContradiction (fun q => h (e2.mpr (by omega))) | exact Decidable.byContradiction (fun q => h (e3.mpr (by omega)))
theorem jm_if_gtN {sc : jm_S} {Y : jm_Y} {pc : Nat} {ls : jm_Ls} {st : List Value} {M : jm_M} {Q : Option Value → jm_M → Prop} {a : Nat} {off : Int} {tgt : Nat} (d : decode Y.2.1 pc = .ok (.ifCond .gt off, 3)) (ht : (pc : Int) + off = (tgt : Int)) (ha : a < 2147483648) (kt : 0 < a → jm_J sc Y tgt ls st M Q) (kf : a = 0 → jm_J sc Y (pc + 3) ls st M Q) : jm_J sc Y pc ls (.int (nI a) :: st) M Q := by
  have e : nI a = 0 ↔ a = 0 := nI_eq (b := 0) ha (by decide)
  have e2 : (0 : Int32) < nI a ↔ 0 < a := nI_ltI (a := 0) (by decide) ha
  have e3 : nI a ≤ 0 ↔ a ≤ 0 := nI_leI (b := 0) ha (by decide)
  refine jm_if_gt d ht (fun h => kt ?_) (fun h => kf ?_)
  · first | exact e.mp h | exact fun q => h (e.mpr q) | exact e2.mp h | exact Nat.le_zero.mp (e3.mp h)
  · first | exact e.mp h | exact fun q => h (e.mpr q) | exact Decidable.byContradiction (fun q => h (fun z => q (e.mp z))) | exact Decidable.byContradiction (fun q => h (e2.mpr (by omega))) | exact Decidable.byContradiction (fun q => h (e3.mpr (by omega)))
theorem jm_if_leN {sc : jm_S} {Y : jm_Y} {pc : Nat} {ls : jm_Ls} {st : List Value} {M : jm_M} {Q : Option Value → jm_M → Prop} {a : Nat} {off : Int} {tgt : Nat} (d : decode Y.2.1 pc = .ok (.ifCond .le off, 3)) (ht : (pc : Int) + off = (tgt : Int)) (ha : a < 2147483648) (kt : a = 0 → jm_J sc Y tgt ls st M Q) (kf : 0 < a → jm_J sc Y (pc + 3) ls st M Q) : jm_J sc Y pc ls (.int (nI a) :: st) M Q := by
  have e : nI a = 0 ↔ a = 0 := nI_eq (b := 0) ha (by decide)
  have e2 : (0 : Int32) < nI a ↔ 0 < a := nI_ltI (a := 0) (by decide) ha
  have e3 : nI a ≤ 0 ↔ a ≤ 0 := nI_leI (b := 0) ha (by decide)
  refine jm_if_le d ht (fun h => kt ?_) (fun h => kf ?_)
  · first | exact e.mp h | exact fun q => h (e.mpr q) | exact e2.mp h | exact Nat.le_zero.mp (e3.mp h)
  · first | exact e.mp h | exact fun q => h (e.mpr q) | exact Decidable.byContradiction (fun q => h (fun z => q (e.mp z))) | exact Decidable.byContradiction (fun q => h (e2.mpr (by omega))) | exact Decidable.byContradiction (fun q => h (e3.mpr (by omega)))
theorem jm_if_ltN {sc : jm_S} {Y : jm_Y} {pc : Nat} {ls : jm_Ls} {st : List Value} {M : jm_M} {Q : Option Value → jm_M → Prop} {a : Nat} {off : Int} {tgt : Nat} (d : decode Y.2.1 pc = .ok (.ifCond .lt off, 3)) (ht : (pc : Int) + off = (tgt : Int)) (ha : a < 2147483648) (kf : jm_J sc Y (pc + 3) ls st M Q) : jm_J sc Y pc ls (.int (nI a) :: st) M Q := jm_if_lt d ht (fun h => absurd h (nI_pos ha)) (fun _ => kf)
theorem jm_if_geN {sc : jm_S} {Y : jm_Y} {pc : Nat} {ls : jm_Ls} {st : List Value} {M : jm_M} {Q : Option Value → jm_M → Prop} {a : Nat} {off : Int} {tgt : Nat} (d : decode Y.2.1 pc = .ok (.ifCond .ge off, 3)) (ht : (pc : Int) + off = (tgt : Int)) (ha : a < 2147483648) (kt : jm_J sc Y tgt ls st M Q) : jm_J sc Y pc ls (.int (nI a) :: st) M Q := jm_if_ge d ht (fun _ => kt) (fun h => absurd (nI_pos' ha) h)
theorem jm_icmp_eqN {sc : jm_S} {Y : jm_Y} {pc : Nat} {ls : jm_Ls} {st : List Value} {M : jm_M} {Q : Option Value → jm_M → Prop} {a b : Nat} {off : Int} {tgt : Nat} (d : decode Y.2.1 pc = .ok (.if_icmp .eq off, 3)) (ht : (pc : Int) + off = (tgt : Int)) (ha : a < 2147483648) (hb : b < 2147483648) (kt : a = b → jm_J sc Y tgt ls st M Q) (kf : ¬ a = b → jm_J sc Y (pc + 3) ls st M Q) : jm_J sc Y pc ls (.int (nI b) :: .int (nI a) :: st) M Q := by
  have e1 : nI a = nI b ↔ a = b := nI_eq ha hb
  have e2 : nI a < nI b ↔ a < b := nI_ltI ha hb
  have e3 : nI b < nI a ↔ b < a := nI_ltI hb ha
  have e4 : nI a ≤ nI b ↔ a ≤ b := nI_leI ha hb
  have e5 : nI b ≤ nI a ↔ b ≤ a := nI_leI hb ha
  refine jm_icmp_eq d ht (fun h => kt ?_) (fun h => kf ?_)
  · first | exact e1.mp h | exact e2.mp h | exact e3.mp h | exact e4.mp h | exact e5.mp h | exact fun q => h (e1.mpr q)
  · refine Decidable.byContradiction (fun q => ?_)
    first | exact q (e1.mp h) | exact q (fun z => h (e1.mpr z)) | exact h (fun z => q (e1.mp z)) | exact h (e2.mpr (by omega)) | exact h (e3.mpr (by omega)) | exact h (e4.mpr (by omega)) | exact h (e5.mpr (by omega))
theorem jm_icmp_neN {sc : jm_S} {Y : jm_Y} {pc : Nat} {ls : jm_Ls} {st : List Value} {M : jm_M} {Q : Option Value → jm_M → Prop} {a b : Nat} {off : Int} {tgt : Nat} (d : decode Y.2.1 pc = .ok (.if_icmp .ne off, 3)) (ht : (pc : Int) + off = (tgt : Int)) (ha : a < 2147483648) (hb : b < 2147483648) (kt : ¬ a = b → jm_J sc Y tgt ls st M Q) (kf : a = b → jm_J sc Y (pc + 3) ls st M Q) : jm_J sc Y pc ls (.int (nI b) :: .int (nI a) :: st) M Q := by
  have e1 : nI a = nI b ↔ a = b := nI_eq ha hb
  have e2 : nI a < nI b ↔ a < b := nI_ltI ha hb
  have e3 : nI b < nI a ↔ b < a := nI_ltI hb ha
  have e4 : nI a ≤ nI b ↔ a ≤ b := nI_leI ha hb
  have e5 : nI b ≤ nI a ↔ b ≤ a := nI_leI hb ha
  refine jm_icmp_ne d ht (fun h => kt ?_) (fun h => kf ?_)
  · first | exact e1.mp h | exact e2.mp h | exact e3.mp h | exact e4.mp h | exact e5.mp h | exact fun q => h (e1.mpr q)
  · refine Decidable.byContradiction (fun q => ?_)
    first | exact q (e1.mp h) | exact q (fun z => h (e1.mpr z)) | exact h (fun z => q (e1.mp z)) | exact h (e2.mpr (by omega)) | exact h (e3.mpr (by omega)) | exact h (e4.mpr (by omega)) | exact h (e5.mpr (by omega))
theorem jm_icmp_ltN {sc : jm_S} {Y : jm_Y} {pc : Nat} {ls : jm_Ls} {st : List Value} {M : jm_M} {Q : Option Value → jm_M → Prop} {a b : Nat} {off : Int} {tgt : Nat} (d : decode Y.2.1 pc = .ok (.if_icmp .lt off, 3)) (ht : (pc : Int) + off = (tgt : Int)) (ha : a < 2147483648) (hb : b < 2147483648) (kt : a < b → jm_J sc Y tgt ls st M Q) (kf : b ≤ a → jm_J sc Y (pc + 3) ls st M Q) : jm_J sc Y pc ls (.int (nI b) :: .int (nI a) :: st) M Q := by
  have e1 : nI a = nI b ↔ a = b := nI_eq ha hb
  have e2 : nI a < nI b ↔ a < b := nI_ltI ha hb
  have e3 : nI b < nI a ↔ b < a := nI_ltI hb ha
  have e4 : nI a ≤ nI b ↔ a ≤ b := nI_leI ha hb
  have e5 : nI b ≤ nI a ↔ b ≤ a := nI_leI hb ha
  refine jm_icmp_lt d ht (fun h => kt ?_) (fun h => kf ?_)
  · first | exact e1.mp h | exact e2.mp h | exact e3.mp h | exact e4.mp h | exact e5.mp h | exact fun q => h (e1.mpr q)
  · refine Decidable.byContradiction (fun q => ?_)
    first | exact q (e1.mp h) | exact q (fun z => h (e1.mpr z)) | exact h (fun z => q (e1.mp z)) | exact h (e2.mpr (by omega)) | exact h (e3.mpr (by omega)) | exact h (e4.mpr (by omega)) | exact h (e5.mpr (by omega))
theorem jm_icmp_geN {sc : jm_S} {Y : jm_Y} {pc : Nat} {ls : jm_Ls} {st : List Value} {M : jm_M} {Q : Option Value → jm_M → Prop} {a b : Nat} {off : Int} {tgt : Nat} (d : decode Y.2.1 pc = .ok (.if_icmp .ge off, 3)) (ht : (pc : Int) + off = (tgt : Int)) (ha : a < 2147483648) (hb : b < 2147483648) (kt : b ≤ a → jm_J sc Y tgt ls st M Q) (kf : a < b → jm_J sc Y (pc + 3) ls st M Q) : jm_J sc Y pc ls (.int (nI b) :: .int (nI a) :: st) M Q := by
  have e1 : nI a = nI b ↔ a = b := nI_eq ha hb
  have e2 : nI a < nI b ↔ a < b := nI_ltI ha hb
  have e3 : nI b < nI a ↔ b < a := nI_ltI hb ha
  have e4 : nI a ≤ nI b ↔ a ≤ b := nI_leI ha hb
  have e5 : nI b ≤ nI a ↔ b ≤ a := nI_leI hb ha
  refine jm_icmp_ge d ht (fun h => kt ?_) (fun h => kf ?_)
  · first | exact e1.mp h | exact e2.mp h | exact e3.mp h | exact e4.mp h | exact e5.mp h | exact fun q => h (e1.mpr q)
  · refine Decidable.byContradiction (fun q => ?_)
    first | exact q (e1.mp h) | exact q (fun z => h (e1.mpr z)) | exact h (fun z => q (e1.mp z)) | exact h (e2.mpr (by omega)) | exact h (e3.mpr (by omega)) | exact h (e4.mpr (by omega)) | exact h (e5.mpr (by omega))
theorem jm_icmp_gtN {sc : jm_S} {Y : jm_Y} {pc : Nat} {ls : jm_Ls} {st : List Value} {M : jm_M} {Q : Option Value → jm_M → Prop} {a b : Nat} {off : Int} {tgt : Nat} (d : decode Y.2.1 pc = .ok (.if_icmp .gt off, 3)) (ht : (pc : Int) + off = (tgt : Int)) (ha : a < 2147483648) (hb : b < 2147483648) (kt : b < a → jm_J sc Y tgt ls st M Q) (kf : a ≤ b → jm_J sc Y (pc + 3) ls st M Q) : jm_J sc Y pc ls (.int (nI b) :: .int (nI a) :: st) M Q := by
  have e1 : nI a = nI b ↔ a = b := nI_eq ha hb
  have e2 : nI a < nI b ↔ a < b := nI_ltI ha hb
  have e3 : nI b < nI a ↔ b < a := nI_ltI hb ha
  have e4 : nI a ≤ nI b ↔ a ≤ b := nI_leI ha hb
  have e5 : nI b ≤ nI a ↔ b ≤ a := nI_leI hb ha
  refine jm_icmp_gt d ht (fun h => kt ?_) (fun h => kf ?_)
  · first | exact e1.mp h | exact e2.mp h | exact e3.mp h | exact e4.mp h | exact e5.mp h | exact fun q => h (e1.mpr q)
  · refine Decidable.byContradiction (fun q => ?_)
    first | exact q (e1.mp h) | exact q (fun z => h (e1.mpr z)) | exact h (fun z => q (e1.mp z)) | exact h (e2.mpr (by omega)) | exact h (e3.mpr (by omega)) | exact h (e4.mpr (by omega)) | exact h (e5.mpr (by omega))
theorem jm_icmp_leN {sc : jm_S} {Y : jm_Y} {pc : Nat} {ls : jm_Ls} {st : List Value} {M : jm_M} {Q : Option Value → jm_M → Prop} {a b : Nat} {off : Int} {tgt : Nat} (d : decode Y.2.1 pc = .ok (.if_icmp .le off, 3)) (ht : (pc : Int) + off = (tgt : Int)) (ha : a < 2147483648) (hb : b < 2147483648) (kt : a ≤ b → jm_J sc Y tgt ls st M Q) (kf : b < a → jm_J sc Y (pc + 3) ls st M Q) : jm_J sc Y pc ls (.int (nI b) :: .int (nI a) :: st) M Q := by
  have e1 : nI a = nI b ↔ a = b := nI_eq ha hb
  have e2 : nI a < nI b ↔ a < b := nI_ltI ha hb
  have e3 : nI b < nI a ↔ b < a := nI_ltI hb ha
  have e4 : nI a ≤ nI b ↔ a ≤ b := nI_leI ha hb
  have e5 : nI b ≤ nI a ↔ b ≤ a := nI_leI hb ha
  refine jm_icmp_le d ht (fun h => kt ?_) (fun h => kf ?_)
  · first | exact e1.mp h | exact e2.mp h | exact e3.mp h | exact e4.mp h | exact e5.mp h | exact fun q => h (e1.mpr q)
  · refine Decidable.byContradiction (fun q => ?_)
    first | exact q (e1.mp h) | exact q (fun z => h (e1.mpr z)) | exact h (fun z => q (e1.mp z)) | exact h (e2.mpr (by omega)) | exact h (e3.mpr (by omega)) | exact h (e4.mpr (by omega)) | exact h (e5.mpr (by omega))
theorem jm_V0i {sc : jm_S} {Y Yc : jm_Y} {pc idx ci nf b : Nat} {ls : jm_Ls} {rest : List Value} {M : jm_M} {Q Qc : Option Value → jm_M → Prop} (d : decode Y.2.1 pc = .ok (.invokevirtual idx, 3)) (L : jm_LV Y.1.cls idx Yc 0 ci) (hty : ∃ ty, Yc.2.2.2.1 = some ty) (hob : jm_ob b = some (ci, nf))  (hen : 1 ≤ Yc.2.2.1) (hw : (rest.map fun v => v.category).sum ≤ 8) (hR : Yc.2.2.2.2.1 + 1 ≤ Y.2.2.2.2.1 ∧ 8 + (Yc.2.2.1 + 11) + Yc.2.2.2.2.2 ≤ Y.2.2.2.2.2) (hc : jm_J none Yc 0 (jm_en Yc.2.2.1 [.ref b]) [] M Qc) (kk : ∀ (r : Int32) (M1 : jm_M), Qc (some (.int r)) M1 → jm_J sc Y (pc + 3) ls (.int r :: rest) M1 Q) : jm_J sc Y pc ls (.ref b :: rest) M Q := jm_cVi (As := []) (rest := rest) d L hty hob rfl rfl (fun v hv => by simp at hv) hen hw hR hc kk
theorem jm_V0ie {sc : jm_S} {Y Yc : jm_Y} {pc idx ci nf b : Nat} {ls : jm_Ls} {rest : List Value} {M M1 : jm_M} {Q : Option Value → jm_M → Prop} {r : Int32} (d : decode Y.2.1 pc = .ok (.invokevirtual idx, 3)) (L : jm_LV Y.1.cls idx Yc 0 ci) (hty : ∃ ty, Yc.2.2.2.1 = some ty) (hob : jm_ob b = some (ci, nf))  (hen : 1 ≤ Yc.2.2.1) (hw : (rest.map fun v => v.category).sum ≤ 8) (hR : Yc.2.2.2.2.1 + 1 ≤ Y.2.2.2.2.1 ∧ 8 + (Yc.2.2.1 + 11) + Yc.2.2.2.2.2 ≤ Y.2.2.2.2.2) (hc : jm_J none Yc 0 (jm_en Yc.2.2.1 [.ref b]) [] M (jm_is (some (.int r)) M1)) (kk : jm_J sc Y (pc + 3) ls (.int r :: rest) M1 Q) : jm_J sc Y pc ls (.ref b :: rest) M Q := jm_V0i d L hty hob  hen hw hR hc (fun r' M1' h => by obtain ⟨h1, rfl⟩ := h; cases h1; exact kk)
theorem jm_V0v {sc : jm_S} {Y Yc : jm_Y} {pc idx ci nf b : Nat} {ls : jm_Ls} {rest : List Value} {M : jm_M} {Q Qc : Option Value → jm_M → Prop} (d : decode Y.2.1 pc = .ok (.invokevirtual idx, 3)) (L : jm_LV Y.1.cls idx Yc 0 ci) (hty : Yc.2.2.2.1 = none) (hob : jm_ob b = some (ci, nf))  (hen : 1 ≤ Yc.2.2.1) (hw : (rest.map fun v => v.category).sum ≤ 8) (hR : Yc.2.2.2.2.1 + 1 ≤ Y.2.2.2.2.1 ∧ 8 + (Yc.2.2.1 + 11) + Yc.2.2.2.2.2 ≤ Y.2.2.2.2.2) (hc : jm_J none Yc 0 (jm_en Yc.2.2.1 [.ref b]) [] M Qc) (kk : ∀ (M1 : jm_M), Qc none M1 → jm_J sc Y (pc + 3) ls rest M1 Q) : jm_J sc Y pc ls (.ref b :: rest) M Q := jm_cVv (As := []) (rest := rest) d L hty hob rfl rfl (fun v hv => by simp at hv) hen hw hR hc kk
theorem jm_V0ve {sc : jm_S} {Y Yc : jm_Y} {pc idx ci nf b : Nat} {ls : jm_Ls} {rest : List Value} {M M1 : jm_M} {Q : Option Value → jm_M → Prop} (d : decode Y.2.1 pc = .ok (.invokevirtual idx, 3)) (L : jm_LV Y.1.cls idx Yc 0 ci) (hty : Yc.2.2.2.1 = none) (hob : jm_ob b = some (ci, nf))  (hen : 1 ≤ Yc.2.2.1) (hw : (rest.map fun v => v.category).sum ≤ 8) (hR : Yc.2.2.2.2.1 + 1 ≤ Y.2.2.2.2.1 ∧ 8 + (Yc.2.2.1 + 11) + Yc.2.2.2.2.2 ≤ Y.2.2.2.2.2) (hc : jm_J none Yc 0 (jm_en Yc.2.2.1 [.ref b]) [] M (jm_is none M1)) (kk : jm_J sc Y (pc + 3) ls rest M1 Q) : jm_J sc Y pc ls (.ref b :: rest) M Q := jm_V0v d L hty hob  hen hw hR hc (fun M1' h => by obtain ⟨-, rfl⟩ := h; exact kk)
theorem jm_S0i {sc : jm_S} {Y Yc : jm_Y} {pc idx : Nat} {ls : jm_Ls} {rest : List Value} {M : jm_M} {Q Qc : Option Value → jm_M → Prop} (d : decode Y.2.1 pc = .ok (.invokestatic idx, 3)) (L : jm_LS Y.1.cls idx Yc 0) (hty : ∃ ty, Yc.2.2.2.1 = some ty)  (hen : 0 ≤ Yc.2.2.1) (hw : (rest.map fun v => v.category).sum ≤ 8) (hR : Yc.2.2.2.2.1 + 1 ≤ Y.2.2.2.2.1 ∧ 8 + (Yc.2.2.1 + 11) + Yc.2.2.2.2.2 ≤ Y.2.2.2.2.2) (hc : jm_J none Yc 0 (jm_en Yc.2.2.1 []) [] M Qc) (kk : ∀ (r : Int32) (M1 : jm_M), Qc (some (.int r)) M1 → jm_J sc Y (pc + 3) ls (.int r :: rest) M1 Q) : jm_J sc Y pc ls (rest) M Q := jm_cSi (ci := 0) (nf := 0) (b := 0) (As := []) (rest := rest) d L hty rfl rfl (fun v hv => by simp at hv) hen hw hR hc kk
theorem jm_S0ie {sc : jm_S} {Y Yc : jm_Y} {pc idx : Nat} {ls : jm_Ls} {rest : List Value} {M M1 : jm_M} {Q : Option Value → jm_M → Prop} {r : Int32} (d : decode Y.2.1 pc = .ok (.invokestatic idx, 3)) (L : jm_LS Y.1.cls idx Yc 0) (hty : ∃ ty, Yc.2.2.2.1 = some ty)  (hen : 0 ≤ Yc.2.2.1) (hw : (rest.map fun v => v.category).sum ≤ 8) (hR : Yc.2.2.2.2.1 + 1 ≤ Y.2.2.2.2.1 ∧ 8 + (Yc.2.2.1 + 11) + Yc.2.2.2.2.2 ≤ Y.2.2.2.2.2) (hc : jm_J none Yc 0 (jm_en Yc.2.2.1 []) [] M (jm_is (some (.int r)) M1)) (kk : jm_J sc Y (pc + 3) ls (.int r :: rest) M1 Q) : jm_J sc Y pc ls (rest) M Q := jm_S0i d L hty  hen hw hR hc (fun r' M1' h => by obtain ⟨h1, rfl⟩ := h; cases h1; exact kk)
theorem jm_S0v {sc : jm_S} {Y Yc : jm_Y} {pc idx : Nat} {ls : jm_Ls} {rest : List Value} {M : jm_M} {Q Qc : Option Value → jm_M → Prop} (d : decode Y.2.1 pc = .ok (.invokestatic idx, 3)) (L : jm_LS Y.1.cls idx Yc 0) (hty : Yc.2.2.2.1 = none)  (hen : 0 ≤ Yc.2.2.1) (hw : (rest.map fun v => v.category).sum ≤ 8) (hR : Yc.2.2.2.2.1 + 1 ≤ Y.2.2.2.2.1 ∧ 8 + (Yc.2.2.1 + 11) + Yc.2.2.2.2.2 ≤ Y.2.2.2.2.2) (hc : jm_J none Yc 0 (jm_en Yc.2.2.1 []) [] M Qc) (kk : ∀ (M1 : jm_M), Qc none M1 → jm_J sc Y (pc + 3) ls rest M1 Q) : jm_J sc Y pc ls (rest) M Q := jm_cSv (ci := 0) (nf := 0) (b := 0) (As := []) (rest := rest) d L hty rfl rfl (fun v hv => by simp at hv) hen hw hR hc kk
theorem jm_S0ve {sc : jm_S} {Y Yc : jm_Y} {pc idx : Nat} {ls : jm_Ls} {rest : List Value} {M M1 : jm_M} {Q : Option Value → jm_M → Prop} (d : decode Y.2.1 pc = .ok (.invokestatic idx, 3)) (L : jm_LS Y.1.cls idx Yc 0) (hty : Yc.2.2.2.1 = none)  (hen : 0 ≤ Yc.2.2.1) (hw : (rest.map fun v => v.category).sum ≤ 8) (hR : Yc.2.2.2.2.1 + 1 ≤ Y.2.2.2.2.1 ∧ 8 + (Yc.2.2.1 + 11) + Yc.2.2.2.2.2 ≤ Y.2.2.2.2.2) (hc : jm_J none Yc 0 (jm_en Yc.2.2.1 []) [] M (jm_is none M1)) (kk : jm_J sc Y (pc + 3) ls rest M1 Q) : jm_J sc Y pc ls (rest) M Q := jm_S0v d L hty  hen hw hR hc (fun M1' h => by obtain ⟨-, rfl⟩ := h; exact kk)
theorem jm_V1i {sc : jm_S} {Y Yc : jm_Y} {pc idx ci nf b : Nat} {ls : jm_Ls} {rest : List Value} {M : jm_M} {Q Qc : Option Value → jm_M → Prop} {a0 : Value} (d : decode Y.2.1 pc = .ok (.invokevirtual idx, 3)) (L : jm_LV Y.1.cls idx Yc 1 ci) (hty : ∃ ty, Yc.2.2.2.1 = some ty) (hob : jm_ob b = some (ci, nf)) (h0 : a0.category = 1) (hen : 2 ≤ Yc.2.2.1) (hw : (rest.map fun v => v.category).sum ≤ 8) (hR : Yc.2.2.2.2.1 + 1 ≤ Y.2.2.2.2.1 ∧ 8 + (Yc.2.2.1 + 11) + Yc.2.2.2.2.2 ≤ Y.2.2.2.2.2) (hc : jm_J none Yc 0 (jm_en Yc.2.2.1 [.ref b, a0]) [] M Qc) (kk : ∀ (r : Int32) (M1 : jm_M), Qc (some (.int r)) M1 → jm_J sc Y (pc + 3) ls (.int r :: rest) M1 Q) : jm_J sc Y pc ls (a0 :: .ref b :: rest) M Q := jm_cVi (As := [a0]) (rest := rest) d L hty hob rfl rfl (fun v hv => by simp only [List.mem_cons, List.not_mem_nil, or_false] at hv; rw [hv]; assumption) hen hw hR hc kk
theorem jm_V1ie {sc : jm_S} {Y Yc : jm_Y} {pc idx ci nf b : Nat} {ls : jm_Ls} {rest : List Value} {M M1 : jm_M} {Q : Option Value → jm_M → Prop} {r : Int32} {a0 : Value} (d : decode Y.2.1 pc = .ok (.invokevirtual idx, 3)) (L : jm_LV Y.1.cls idx Yc 1 ci) (hty : ∃ ty, Yc.2.2.2.1 = some ty) (hob : jm_ob b = some (ci, nf)) (h0 : a0.category = 1) (hen : 2 ≤ Yc.2.2.1) (hw : (rest.map fun v => v.category).sum ≤ 8) (hR : Yc.2.2.2.2.1 + 1 ≤ Y.2.2.2.2.1 ∧ 8 + (Yc.2.2.1 + 11) + Yc.2.2.2.2.2 ≤ Y.2.2.2.2.2) (hc : jm_J none Yc 0 (jm_en Yc.2.2.1 [.ref b, a0]) [] M (jm_is (some (.int r)) M1)) (kk : jm_J sc Y (pc + 3) ls (.int r :: rest) M1 Q) : jm_J sc Y pc ls (a0 :: .ref b :: rest) M Q := jm_V1i d L hty hob h0 hen hw hR hc (fun r' M1' h => by obtain ⟨h1, rfl⟩ := h; cases h1; exact kk)
theorem jm_V1v {sc : jm_S} {Y Yc : jm_Y} {pc idx ci nf b : Nat} {ls : jm_Ls} {rest : List Value} {M : jm_M} {Q Qc : Option Value → jm_M → Prop} {a0 : Value} (d : decode Y.2.1 pc = .ok (.invokevirtual idx, 3)) (L : jm_LV Y.1.cls idx Yc 1 ci) (hty : Yc.2.2.2.1 = none) (hob : jm_ob b = some (ci, nf)) (h0 : a0.category = 1) (hen : 2 ≤ Yc.2.2.1) (hw : (rest.map fun v => v.category).sum ≤ 8) (hR : Yc.2.2.2.2.1 + 1 ≤ Y.2.2.2.2.1 ∧ 8 + (Yc.2.2.1 + 11) + Yc.2.2.2.2.2 ≤ Y.2.2.2.2.2) (hc : jm_J none Yc 0 (jm_en Yc.2.2.1 [.ref b, a0]) [] M Qc) (kk : ∀ (M1 : jm_M), Qc none M1 → jm_J sc Y (pc + 3) ls rest M1 Q) : jm_J sc Y pc ls (a0 :: .ref b :: rest) M Q := jm_cVv (As := [a0]) (rest := rest) d L hty hob rfl rfl (fun v hv => by simp only [List.mem_cons, List.not_mem_nil, or_false] at hv; rw [hv]; assumption) hen hw hR hc kk
theorem jm_V1ve {sc : jm_S} {Y Yc : jm_Y} {pc idx ci nf b : Nat} {ls : jm_Ls} {rest : List Value} {M M1 : jm_M} {Q : Option Value → jm_M → Prop} {a0 : Value} (d : decode Y.2.1 pc = .ok (.invokevirtual idx, 3)) (L : jm_LV Y.1.cls idx Yc 1 ci) (hty : Yc.2.2.2.1 = none) (hob : jm_ob b = some (ci, nf)) (h0 : a0.category = 1) (hen : 2 ≤ Yc.2.2.1) (hw : (rest.map fun v => v.category).sum ≤ 8) (hR : Yc.2.2.2.2.1 + 1 ≤ Y.2.2.2.2.1 ∧ 8 + (Yc.2.2.1 + 11) + Yc.2.2.2.2.2 ≤ Y.2.2.2.2.2) (hc : jm_J none Yc 0 (jm_en Yc.2.2.1 [.ref b, a0]) [] M (jm_is none M1)) (kk : jm_J sc Y (pc + 3) ls rest M1 Q) : jm_J sc Y pc ls (a0 :: .ref b :: rest) M Q := jm_V1v d L hty hob h0 hen hw hR hc (fun M1' h => by obtain ⟨-, rfl⟩ := h; exact kk)
theorem jm_S1i {sc : jm_S} {Y Yc : jm_Y} {pc idx : Nat} {ls : jm_Ls} {rest : List Value} {M : jm_M} {Q Qc : Option Value → jm_M → Prop} {a0 : Value} (d : decode Y.2.1 pc = .ok (.invokestatic idx, 3)) (L : jm_LS Y.1.cls idx Yc 1) (hty : ∃ ty, Yc.2.2.2.1 = some ty) (h0 : a0.category = 1) (hen : 1 ≤ Yc.2.2.1) (hw : (rest.map fun v => v.category).sum ≤ 8) (hR : Yc.2.2.2.2.1 + 1 ≤ Y.2.2.2.2.1 ∧ 8 + (Yc.2.2.1 + 11) + Yc.2.2.2.2.2 ≤ Y.2.2.2.2.2) (hc : jm_J none Yc 0 (jm_en Yc.2.2.1 [a0]) [] M Qc) (kk : ∀ (r : Int32) (M1 : jm_M), Qc (some (.int r)) M1 → jm_J sc Y (pc + 3) ls (.int r :: rest) M1 Q) : jm_J sc Y pc ls (a0 :: rest) M Q := jm_cSi (ci := 0) (nf := 0) (b := 0) (As := [a0]) (rest := rest) d L hty rfl rfl (fun v hv => by simp only [List.mem_cons, List.not_mem_nil, or_false] at hv; rw [hv]; assumption) hen hw hR hc kk
theorem jm_S1ie {sc : jm_S} {Y Yc : jm_Y} {pc idx : Nat} {ls : jm_Ls} {rest : List Value} {M M1 : jm_M} {Q : Option Value → jm_M → Prop} {r : Int32} {a0 : Value} (d : decode Y.2.1 pc = .ok (.invokestatic idx, 3)) (L : jm_LS Y.1.cls idx Yc 1) (hty : ∃ ty, Yc.2.2.2.1 = some ty) (h0 : a0.category = 1) (hen : 1 ≤ Yc.2.2.1) (hw : (rest.map fun v => v.category).sum ≤ 8) (hR : Yc.2.2.2.2.1 + 1 ≤ Y.2.2.2.2.1 ∧ 8 + (Yc.2.2.1 + 11) + Yc.2.2.2.2.2 ≤ Y.2.2.2.2.2) (hc : jm_J none Yc 0 (jm_en Yc.2.2.1 [a0]) [] M (jm_is (some (.int r)) M1)) (kk : jm_J sc Y (pc + 3) ls (.int r :: rest) M1 Q) : jm_J sc Y pc ls (a0 :: rest) M Q := jm_S1i d L hty h0 hen hw hR hc (fun r' M1' h => by obtain ⟨h1, rfl⟩ := h; cases h1; exact kk)
theorem jm_S1v {sc : jm_S} {Y Yc : jm_Y} {pc idx : Nat} {ls : jm_Ls} {rest : List Value} {M : jm_M} {Q Qc : Option Value → jm_M → Prop} {a0 : Value} (d : decode Y.2.1 pc = .ok (.invokestatic idx, 3)) (L : jm_LS Y.1.cls idx Yc 1) (hty : Yc.2.2.2.1 = none) (h0 : a0.category = 1) (hen : 1 ≤ Yc.2.2.1) (hw : (rest.map fun v => v.category).sum ≤ 8) (hR : Yc.2.2.2.2.1 + 1 ≤ Y.2.2.2.2.1 ∧ 8 + (Yc.2.2.1 + 11) + Yc.2.2.2.2.2 ≤ Y.2.2.2.2.2) (hc : jm_J none Yc 0 (jm_en Yc.2.2.1 [a0]) [] M Qc) (kk : ∀ (M1 : jm_M), Qc none M1 → jm_J sc Y (pc + 3) ls rest M1 Q) : jm_J sc Y pc ls (a0 :: rest) M Q := jm_cSv (ci := 0) (nf := 0) (b := 0) (As := [a0]) (rest := rest) d L hty rfl rfl (fun v hv => by simp only [List.mem_cons, List.not_mem_nil, or_false] at hv; rw [hv]; assumption) hen hw hR hc kk
theorem jm_S1ve {sc : jm_S} {Y Yc : jm_Y} {pc idx : Nat} {ls : jm_Ls} {rest : List Value} {M M1 : jm_M} {Q : Option Value → jm_M → Prop} {a0 : Value} (d : decode Y.2.1 pc = .ok (.invokestatic idx, 3)) (L : jm_LS Y.1.cls idx Yc 1) (hty : Yc.2.2.2.1 = none) (h0 : a0.category = 1) (hen : 1 ≤ Yc.2.2.1) (hw : (rest.map fun v => v.category).sum ≤ 8) (hR : Yc.2.2.2.2.1 + 1 ≤ Y.2.2.2.2.1 ∧ 8 + (Yc.2.2.1 + 11) + Yc.2.2.2.2.2 ≤ Y.2.2.2.2.2) (hc : jm_J none Yc 0 (jm_en Yc.2.2.1 [a0]) [] M (jm_is none M1)) (kk : jm_J sc Y (pc + 3) ls rest M1 Q) : jm_J sc Y pc ls (a0 :: rest) M Q := jm_S1v d L hty h0 hen hw hR hc (fun M1' h => by obtain ⟨-, rfl⟩ := h; exact kk)
theorem jm_V2i {sc : jm_S} {Y Yc : jm_Y} {pc idx ci nf b : Nat} {ls : jm_Ls} {rest : List Value} {M : jm_M} {Q Qc : Option Value → jm_M → Prop} {a0 a1 : Value} (d : decode Y.2.1 pc = .ok (.invokevirtual idx, 3)) (L : jm_LV Y.1.cls idx Yc 2 ci) (hty : ∃ ty, Yc.2.2.2.1 = some ty) (hob : jm_ob b = some (ci, nf)) (h0 : a0.category = 1) (h1 : a1.category = 1) (hen : 3 ≤ Yc.2.2.1) (hw : (rest.map fun v => v.category).sum ≤ 8) (hR : Yc.2.2.2.2.1 + 1 ≤ Y.2.2.2.2.1 ∧ 8 + (Yc.2.2.1 + 11) + Yc.2.2.2.2.2 ≤ Y.2.2.2.2.2) (hc : jm_J none Yc 0 (jm_en Yc.2.2.1 [.ref b, a0, a1]) [] M Qc) (kk : ∀ (r : Int32) (M1 : jm_M), Qc (some (.int r)) M1 → jm_J sc Y (pc + 3) ls (.int r :: rest) M1 Q) : jm_J sc Y pc ls (a1 :: a0 :: .ref b :: rest) M Q := jm_cVi (As := [a0, a1]) (rest := rest) d L hty hob rfl rfl (fun v hv => by simp only [List.mem_cons, List.not_mem_nil, or_false] at hv; rcases hv with rfl | rfl <;> assumption) hen hw hR hc kk
theorem jm_V2ie {sc : jm_S} {Y Yc : jm_Y} {pc idx ci nf b : Nat} {ls : jm_Ls} {rest : List Value} {M M1 : jm_M} {Q : Option Value → jm_M → Prop} {r : Int32} {a0 a1 : Value} (d : decode Y.2.1 pc = .ok (.invokevirtual idx, 3)) (L : jm_LV Y.1.cls idx Yc 2 ci) (hty : ∃ ty, Yc.2.2.2.1 = some ty) (hob : jm_ob b = some (ci, nf)) (h0 : a0.category = 1) (h1 : a1.category = 1) (hen : 3 ≤ Yc.2.2.1) (hw : (rest.map fun v => v.category).sum ≤ 8) (hR : Yc.2.2.2.2.1 + 1 ≤ Y.2.2.2.2.1 ∧ 8 + (Yc.2.2.1 + 11) + Yc.2.2.2.2.2 ≤ Y.2.2.2.2.2) (hc : jm_J none Yc 0 (jm_en Yc.2.2.1 [.ref b, a0, a1]) [] M (jm_is (some (.int r)) M1)) (kk : jm_J sc Y (pc + 3) ls (.int r :: rest) M1 Q) : jm_J sc Y pc ls (a1 :: a0 :: .ref b :: rest) M Q := jm_V2i d L hty hob h0 h1 hen hw hR hc (fun r' M1' h => by obtain ⟨h1, rfl⟩ := h; cases h1; exact kk)
theorem jm_V2v {sc : jm_S} {Y Yc : jm_Y} {pc idx ci nf b : Nat} {ls : jm_Ls} {rest : List Value} {M : jm_M} {Q Qc : Option Value → jm_M → Prop} {a0 a1 : Value} (d : decode Y.2.1 pc = .ok (.invokevirtual idx, 3)) (L : jm_LV Y.1.cls idx Yc 2 ci) (hty : Yc.2.2.2.1 = none) (hob : jm_ob b = some (ci, nf)) (h0 : a0.category = 1) (h1 : a1.category = 1) (hen : 3 ≤ Yc.2.2.1) (hw : (rest.map fun v => v.category).sum ≤ 8) (hR : Yc.2.2.2.2.1 + 1 ≤ Y.2.2.2.2.1 ∧ 8 + (Yc.2.2.1 + 11) + Yc.2.2.2.2.2 ≤ Y.2.2.2.2.2) (hc : jm_J none Yc 0 (jm_en Yc.2.2.1 [.ref b, a0, a1]) [] M Qc) (kk : ∀ (M1 : jm_M), Qc none M1 → jm_J sc Y (pc + 3) ls rest M1 Q) : jm_J sc Y pc ls (a1 :: a0 :: .ref b :: rest) M Q := jm_cVv (As := [a0, a1]) (rest := rest) d L hty hob rfl rfl (fun v hv => by simp only [List.mem_cons, List.not_mem_nil, or_false] at hv; rcases hv with rfl | rfl <;> assumption) hen hw hR hc kk
theorem jm_V2ve {sc : jm_S} {Y Yc : jm_Y} {pc idx ci nf b : Nat} {ls : jm_Ls} {rest : List Value} {M M1 : jm_M} {Q : Option Value → jm_M → Prop} {a0 a1 : Value} (d : decode Y.2.1 pc = .ok (.invokevirtual idx, 3)) (L : jm_LV Y.1.cls idx Yc 2 ci) (hty : Yc.2.2.2.1 = none) (hob : jm_ob b = some (ci, nf)) (h0 : a0.category = 1) (h1 : a1.category = 1) (hen : 3 ≤ Yc.2.2.1) (hw : (rest.map fun v => v.category).sum ≤ 8) (hR : Yc.2.2.2.2.1 + 1 ≤ Y.2.2.2.2.1 ∧ 8 + (Yc.2.2.1 + 11) + Yc.2.2.2.2.2 ≤ Y.2.2.2.2.2) (hc : jm_J none Yc 0 (jm_en Yc.2.2.1 [.ref b, a0, a1]) [] M (jm_is none M1)) (kk : jm_J sc Y (pc + 3) ls rest M1 Q) : jm_J sc Y pc ls (a1 :: a0 :: .ref b :: rest) M Q := jm_V2v d L hty hob h0 h1 hen hw hR hc (fun M1' h => by obtain ⟨-, rfl⟩ := h; exact kk)
theorem jm_S2i {sc : jm_S} {Y Yc : jm_Y} {pc idx : Nat} {ls : jm_Ls} {rest : List Value} {M : jm_M} {Q Qc : Option Value → jm_M → Prop} {a0 a1 : Value} (d : decode Y.2.1 pc = .ok (.invokestatic idx, 3)) (L : jm_LS Y.1.cls idx Yc 2) (hty : ∃ ty, Yc.2.2.2.1 = some ty) (h0 : a0.category = 1) (h1 : a1.category = 1) (hen : 2 ≤ Yc.2.2.1) (hw : (rest.map fun v => v.category).sum ≤ 8) (hR : Yc.2.2.2.2.1 + 1 ≤ Y.2.2.2.2.1 ∧ 8 + (Yc.2.2.1 + 11) + Yc.2.2.2.2.2 ≤ Y.2.2.2.2.2) (hc : jm_J none Yc 0 (jm_en Yc.2.2.1 [a0, a1]) [] M Qc) (kk : ∀ (r : Int32) (M1 : jm_M), Qc (some (.int r)) M1 → jm_J sc Y (pc + 3) ls (.int r :: rest) M1 Q) : jm_J sc Y pc ls (a1 :: a0 :: rest) M Q := jm_cSi (ci := 0) (nf := 0) (b := 0) (As := [a0, a1]) (rest := rest) d L hty rfl rfl (fun v hv => by simp only [List.mem_cons, List.not_mem_nil, or_false] at hv; rcases hv with rfl | rfl <;> assumption) hen hw hR hc kk
theorem jm_S2ie {sc : jm_S} {Y Yc : jm_Y} {pc idx : Nat} {ls : jm_Ls} {rest : List Value} {M M1 : jm_M} {Q : Option Value → jm_M → Prop} {r : Int32} {a0 a1 : Value} (d : decode Y.2.1 pc = .ok (.invokestatic idx, 3)) (L : jm_LS Y.1.cls idx Yc 2) (hty : ∃ ty, Yc.2.2.2.1 = some ty) (h0 : a0.category = 1) (h1 : a1.category = 1) (hen : 2 ≤ Yc.2.2.1) (hw : (rest.map fun v => v.category).sum ≤ 8) (hR : Yc.2.2.2.2.1 + 1 ≤ Y.2.2.2.2.1 ∧ 8 + (Yc.2.2.1 + 11) + Yc.2.2.2.2.2 ≤ Y.2.2.2.2.2) (hc : jm_J none Yc 0 (jm_en Yc.2.2.1 [a0, a1]) [] M (jm_is (some (.int r)) M1)) (kk : jm_J sc Y (pc + 3) ls (.int r :: rest) M1 Q) : jm_J sc Y pc ls (a1 :: a0 :: rest) M Q := jm_S2i d L hty h0 h1 hen hw hR hc (fun r' M1' h => by obtain ⟨h1, rfl⟩ := h; cases h1; exact kk)
theorem jm_S2v {sc : jm_S} {Y Yc : jm_Y} {pc idx : Nat} {ls : jm_Ls} {rest : List Value} {M : jm_M} {Q Qc : Option Value → jm_M → Prop} {a0 a1 : Value} (d : decode Y.2.1 pc = .ok (.invokestatic idx, 3)) (L : jm_LS Y.1.cls idx Yc 2) (hty : Yc.2.2.2.1 = none) (h0 : a0.category = 1) (h1 : a1.category = 1) (hen : 2 ≤ Yc.2.2.1) (hw : (rest.map fun v => v.category).sum ≤ 8) (hR : Yc.2.2.2.2.1 + 1 ≤ Y.2.2.2.2.1 ∧ 8 + (Yc.2.2.1 + 11) + Yc.2.2.2.2.2 ≤ Y.2.2.2.2.2) (hc : jm_J none Yc 0 (jm_en Yc.2.2.1 [a0, a1]) [] M Qc) (kk : ∀ (M1 : jm_M), Qc none M1 → jm_J sc Y (pc + 3) ls rest M1 Q) : jm_J sc Y pc ls (a1 :: a0 :: rest) M Q := jm_cSv (ci := 0) (nf := 0) (b := 0) (As := [a0, a1]) (rest := rest) d L hty rfl rfl (fun v hv => by simp only [List.mem_cons, List.not_mem_nil, or_false] at hv; rcases hv with rfl | rfl <;> assumption) hen hw hR hc kk
theorem jm_S2ve {sc : jm_S} {Y Yc : jm_Y} {pc idx : Nat} {ls : jm_Ls} {rest : List Value} {M M1 : jm_M} {Q : Option Value → jm_M → Prop} {a0 a1 : Value} (d : decode Y.2.1 pc = .ok (.invokestatic idx, 3)) (L : jm_LS Y.1.cls idx Yc 2) (hty : Yc.2.2.2.1 = none) (h0 : a0.category = 1) (h1 : a1.category = 1) (hen : 2 ≤ Yc.2.2.1) (hw : (rest.map fun v => v.category).sum ≤ 8) (hR : Yc.2.2.2.2.1 + 1 ≤ Y.2.2.2.2.1 ∧ 8 + (Yc.2.2.1 + 11) + Yc.2.2.2.2.2 ≤ Y.2.2.2.2.2) (hc : jm_J none Yc 0 (jm_en Yc.2.2.1 [a0, a1]) [] M (jm_is none M1)) (kk : jm_J sc Y (pc + 3) ls rest M1 Q) : jm_J sc Y pc ls (a1 :: a0 :: rest) M Q := jm_S2v d L hty h0 h1 hen hw hR hc (fun M1' h => by obtain ⟨-, rfl⟩ := h; exact kk)
theorem jm_V3i {sc : jm_S} {Y Yc : jm_Y} {pc idx ci nf b : Nat} {ls : jm_Ls} {rest : List Value} {M : jm_M} {Q Qc : Option Value → jm_M → Prop} {a0 a1 a2 : Value} (d : decode Y.2.1 pc = .ok (.invokevirtual idx, 3)) (L : jm_LV Y.1.cls idx Yc 3 ci) (hty : ∃ ty, Yc.2.2.2.1 = some ty) (hob : jm_ob b = some (ci, nf)) (h0 : a0.category = 1) (h1 : a1.category = 1) (h2 : a2.category = 1) (hen : 4 ≤ Yc.2.2.1) (hw : (rest.map fun v => v.category).sum ≤ 8) (hR : Yc.2.2.2.2.1 + 1 ≤ Y.2.2.2.2.1 ∧ 8 + (Yc.2.2.1 + 11) + Yc.2.2.2.2.2 ≤ Y.2.2.2.2.2) (hc : jm_J none Yc 0 (jm_en Yc.2.2.1 [.ref b, a0, a1, a2]) [] M Qc) (kk : ∀ (r : Int32) (M1 : jm_M), Qc (some (.int r)) M1 → jm_J sc Y (pc + 3) ls (.int r :: rest) M1 Q) : jm_J sc Y pc ls (a2 :: a1 :: a0 :: .ref b :: rest) M Q := jm_cVi (As := [a0, a1, a2]) (rest := rest) d L hty hob rfl rfl (fun v hv => by simp only [List.mem_cons, List.not_mem_nil, or_false] at hv; rcases hv with rfl | rfl | rfl <;> assumption) hen hw hR hc kk
theorem jm_V3ie {sc : jm_S} {Y Yc : jm_Y} {pc idx ci nf b : Nat} {ls : jm_Ls} {rest : List Value} {M M1 : jm_M} {Q : Option Value → jm_M → Prop} {r : Int32} {a0 a1 a2 : Value} (d : decode Y.2.1 pc = .ok (.invokevirtual idx, 3)) (L : jm_LV Y.1.cls idx Yc 3 ci) (hty : ∃ ty, Yc.2.2.2.1 = some ty) (hob : jm_ob b = some (ci, nf)) (h0 : a0.category = 1) (h1 : a1.category = 1) (h2 : a2.category = 1) (hen : 4 ≤ Yc.2.2.1) (hw : (rest.map fun v => v.category).sum ≤ 8) (hR : Yc.2.2.2.2.1 + 1 ≤ Y.2.2.2.2.1 ∧ 8 + (Yc.2.2.1 + 11) + Yc.2.2.2.2.2 ≤ Y.2.2.2.2.2) (hc : jm_J none Yc 0 (jm_en Yc.2.2.1 [.ref b, a0, a1, a2]) [] M (jm_is (some (.int r)) M1)) (kk : jm_J sc Y (pc + 3) ls (.int r :: rest) M1 Q) : jm_J sc Y pc ls (a2 :: a1 :: a0 :: .ref b :: rest) M Q := jm_V3i d L hty hob h0 h1 h2 hen hw hR hc (fun r' M1' h => by obtain ⟨h1, rfl⟩ := h; cases h1; exact kk)
theorem jm_V3v {sc : jm_S} {Y Yc : jm_Y} {pc idx ci nf b : Nat} {ls : jm_Ls} {rest : List Value} {M : jm_M} {Q Qc : Option Value → jm_M → Prop} {a0 a1 a2 : Value} (d : decode Y.2.1 pc = .ok (.invokevirtual idx, 3)) (L : jm_LV Y.1.cls idx Yc 3 ci) (hty : Yc.2.2.2.1 = none) (hob : jm_ob b = some (ci, nf)) (h0 : a0.category = 1) (h1 : a1.category = 1) (h2 : a2.category = 1) (hen : 4 ≤ Yc.2.2.1) (hw : (rest.map fun v => v.category).sum ≤ 8) (hR : Yc.2.2.2.2.1 + 1 ≤ Y.2.2.2.2.1 ∧ 8 + (Yc.2.2.1 + 11) + Yc.2.2.2.2.2 ≤ Y.2.2.2.2.2) (hc : jm_J none Yc 0 (jm_en Yc.2.2.1 [.ref b, a0, a1, a2]) [] M Qc) (kk : ∀ (M1 : jm_M), Qc none M1 → jm_J sc Y (pc + 3) ls rest M1 Q) : jm_J sc Y pc ls (a2 :: a1 :: a0 :: .ref b :: rest) M Q := jm_cVv (As := [a0, a1, a2]) (rest := rest) d L hty hob rfl rfl (fun v hv => by simp only [List.mem_cons, List.not_mem_nil, or_false] at hv; rcases hv with rfl | rfl | rfl <;> assumption) hen hw hR hc kk
theorem jm_V3ve {sc : jm_S} {Y Yc : jm_Y} {pc idx ci nf b : Nat} {ls : jm_Ls} {rest : List Value} {M M1 : jm_M} {Q : Option Value → jm_M → Prop} {a0 a1 a2 : Value} (d : decode Y.2.1 pc = .ok (.invokevirtual idx, 3)) (L : jm_LV Y.1.cls idx Yc 3 ci) (hty : Yc.2.2.2.1 = none) (hob : jm_ob b = some (ci, nf)) (h0 : a0.category = 1) (h1 : a1.category = 1) (h2 : a2.category = 1) (hen : 4 ≤ Yc.2.2.1) (hw : (rest.map fun v => v.category).sum ≤ 8) (hR : Yc.2.2.2.2.1 + 1 ≤ Y.2.2.2.2.1 ∧ 8 + (Yc.2.2.1 + 11) + Yc.2.2.2.2.2 ≤ Y.2.2.2.2.2) (hc : jm_J none Yc 0 (jm_en Yc.2.2.1 [.ref b, a0, a1, a2]) [] M (jm_is none M1)) (kk : jm_J sc Y (pc + 3) ls rest M1 Q) : jm_J sc Y pc ls (a2 :: a1 :: a0 :: .ref b :: rest) M Q := jm_V3v d L hty hob h0 h1 h2 hen hw hR hc (fun M1' h => by obtain ⟨-, rfl⟩ := h; exact kk)
theorem jm_S3i {sc : jm_S} {Y Yc : jm_Y} {pc idx : Nat} {ls : jm_Ls} {rest : List Value} {M : jm_M} {Q Qc : Option Value → jm_M → Prop} {a0 a1 a2 : Value} (d : decode Y.2.1 pc = .ok (.invokestatic idx, 3)) (L : jm_LS Y.1.cls idx Yc 3) (hty : ∃ ty, Yc.2.2.2.1 = some ty) (h0 : a0.category = 1) (h1 : a1.category = 1) (h2 : a2.category = 1) (hen : 3 ≤ Yc.2.2.1) (hw : (rest.map fun v => v.category).sum ≤ 8) (hR : Yc.2.2.2.2.1 + 1 ≤ Y.2.2.2.2.1 ∧ 8 + (Yc.2.2.1 + 11) + Yc.2.2.2.2.2 ≤ Y.2.2.2.2.2) (hc : jm_J none Yc 0 (jm_en Yc.2.2.1 [a0, a1, a2]) [] M Qc) (kk : ∀ (r : Int32) (M1 : jm_M), Qc (some (.int r)) M1 → jm_J sc Y (pc + 3) ls (.int r :: rest) M1 Q) : jm_J sc Y pc ls (a2 :: a1 :: a0 :: rest) M Q := jm_cSi (ci := 0) (nf := 0) (b := 0) (As := [a0, a1, a2]) (rest := rest) d L hty rfl rfl (fun v hv => by simp only [List.mem_cons, List.not_mem_nil, or_false] at hv; rcases hv with rfl | rfl | rfl <;> assumption) hen hw hR hc kk
theorem jm_S3ie {sc : jm_S} {Y Yc : jm_Y} {pc idx : Nat} {ls : jm_Ls} {rest : List Value} {M M1 : jm_M} {Q : Option Value → jm_M → Prop} {r : Int32} {a0 a1 a2 : Value} (d : decode Y.2.1 pc = .ok (.invokestatic idx, 3)) (L : jm_LS Y.1.cls idx Yc 3) (hty : ∃ ty, Yc.2.2.2.1 = some ty) (h0 : a0.category = 1) (h1 : a1.category = 1) (h2 : a2.category = 1) (hen : 3 ≤ Yc.2.2.1) (hw : (rest.map fun v => v.category).sum ≤ 8) (hR : Yc.2.2.2.2.1 + 1 ≤ Y.2.2.2.2.1 ∧ 8 + (Yc.2.2.1 + 11) + Yc.2.2.2.2.2 ≤ Y.2.2.2.2.2) (hc : jm_J none Yc 0 (jm_en Yc.2.2.1 [a0, a1, a2]) [] M (jm_is (some (.int r)) M1)) (kk : jm_J sc Y (pc + 3) ls (.int r :: rest) M1 Q) : jm_J sc Y pc ls (a2 :: a1 :: a0 :: rest) M Q := jm_S3i d L hty h0 h1 h2 hen hw hR hc (fun r' M1' h => by obtain ⟨h1, rfl⟩ := h; cases h1; exact kk)
theorem jm_S3v {sc : jm_S} {Y Yc : jm_Y} {pc idx : Nat} {ls : jm_Ls} {rest : List Value} {M : jm_M} {Q Qc : Option Value → jm_M → Prop} {a0 a1 a2 : Value} (d : decode Y.2.1 pc = .ok (.invokestatic idx, 3)) (L : jm_LS Y.1.cls idx Yc 3) (hty : Yc.2.2.2.1 = none) (h0 : a0.category = 1) (h1 : a1.category = 1) (h2 : a2.category = 1) (hen : 3 ≤ Yc.2.2.1) (hw : (rest.map fun v => v.category).sum ≤ 8) (hR : Yc.2.2.2.2.1 + 1 ≤ Y.2.2.2.2.1 ∧ 8 + (Yc.2.2.1 + 11) + Yc.2.2.2.2.2 ≤ Y.2.2.2.2.2) (hc : jm_J none Yc 0 (jm_en Yc.2.2.1 [a0, a1, a2]) [] M Qc) (kk : ∀ (M1 : jm_M), Qc none M1 → jm_J sc Y (pc + 3) ls rest M1 Q) : jm_J sc Y pc ls (a2 :: a1 :: a0 :: rest) M Q := jm_cSv (ci := 0) (nf := 0) (b := 0) (As := [a0, a1, a2]) (rest := rest) d L hty rfl rfl (fun v hv => by simp only [List.mem_cons, List.not_mem_nil, or_false] at hv; rcases hv with rfl | rfl | rfl <;> assumption) hen hw hR hc kk
theorem jm_S3ve {sc : jm_S} {Y Yc : jm_Y} {pc idx : Nat} {ls : jm_Ls} {rest : List Value} {M M1 : jm_M} {Q : Option Value → jm_M → Prop} {a0 a1 a2 : Value} (d : decode Y.2.1 pc = .ok (.invokestatic idx, 3)) (L : jm_LS Y.1.cls idx Yc 3) (hty : Yc.2.2.2.1 = none) (h0 : a0.category = 1) (h1 : a1.category = 1) (h2 : a2.category = 1) (hen : 3 ≤ Yc.2.2.1) (hw : (rest.map fun v => v.category).sum ≤ 8) (hR : Yc.2.2.2.2.1 + 1 ≤ Y.2.2.2.2.1 ∧ 8 + (Yc.2.2.1 + 11) + Yc.2.2.2.2.2 ≤ Y.2.2.2.2.2) (hc : jm_J none Yc 0 (jm_en Yc.2.2.1 [a0, a1, a2]) [] M (jm_is none M1)) (kk : jm_J sc Y (pc + 3) ls rest M1 Q) : jm_J sc Y pc ls (a2 :: a1 :: a0 :: rest) M Q := jm_S3v d L hty h0 h1 h2 hen hw hR hc (fun M1' h => by obtain ⟨-, rfl⟩ := h; exact kk)
theorem jm_V4i {sc : jm_S} {Y Yc : jm_Y} {pc idx ci nf b : Nat} {ls : jm_Ls} {rest : List Value} {M : jm_M} {Q Qc : Option Value → jm_M → Prop} {a0 a1 a2 a3 : Value} (d : decode Y.2.1 pc = .ok (.invokevirtual idx, 3)) (L : jm_LV Y.1.cls idx Yc 4 ci) (hty : ∃ ty, Yc.2.2.2.1 = some ty) (hob : jm_ob b = some (ci, nf)) (h0 : a0.category = 1) (h1 : a1.category = 1) (h2 : a2.category = 1) (h3 : a3.category = 1) (hen : 5 ≤ Yc.2.2.1) (hw : (rest.map fun v => v.category).sum ≤ 8) (hR : Yc.2.2.2.2.1 + 1 ≤ Y.2.2.2.2.1 ∧ 8 + (Yc.2.2.1 + 11) + Yc.2.2.2.2.2 ≤ Y.2.2.2.2.2) (hc : jm_J none Yc 0 (jm_en Yc.2.2.1 [.ref b, a0, a1, a2, a3]) [] M Qc) (kk : ∀ (r : Int32) (M1 : jm_M), Qc (some (.int r)) M1 → jm_J sc Y (pc + 3) ls (.int r :: rest) M1 Q) : jm_J sc Y pc ls (a3 :: a2 :: a1 :: a0 :: .ref b :: rest) M Q := jm_cVi (As := [a0, a1, a2, a3]) (rest := rest) d L hty hob rfl rfl (fun v hv => by simp only [List.mem_cons, List.not_mem_nil, or_false] at hv; rcases hv with rfl | rfl | rfl | rfl <;> assumption) hen hw hR hc kk
theorem jm_V4ie {sc : jm_S} {Y Yc : jm_Y} {pc idx ci nf b : Nat} {ls : jm_Ls} {rest : List Value} {M M1 : jm_M} {Q : Option Value → jm_M → Prop} {r : Int32} {a0 a1 a2 a3 : Value} (d : decode Y.2.1 pc = .ok (.invokevirtual idx, 3)) (L : jm_LV Y.1.cls idx Yc 4 ci) (hty : ∃ ty, Yc.2.2.2.1 = some ty) (hob : jm_ob b = some (ci, nf)) (h0 : a0.category = 1) (h1 : a1.category = 1) (h2 : a2.category = 1) (h3 : a3.category = 1) (hen : 5 ≤ Yc.2.2.1) (hw : (rest.map fun v => v.category).sum ≤ 8) (hR : Yc.2.2.2.2.1 + 1 ≤ Y.2.2.2.2.1 ∧ 8 + (Yc.2.2.1 + 11) + Yc.2.2.2.2.2 ≤ Y.2.2.2.2.2) (hc : jm_J none Yc 0 (jm_en Yc.2.2.1 [.ref b, a0, a1, a2, a3]) [] M (jm_is (some (.int r)) M1)) (kk : jm_J sc Y (pc + 3) ls (.int r :: rest) M1 Q) : jm_J sc Y pc ls (a3 :: a2 :: a1 :: a0 :: .ref b :: rest) M Q := jm_V4i d L hty hob h0 h1 h2 h3 hen hw hR hc (fun r' M1' h => by obtain ⟨h1, rfl⟩ := h; cases h1; exact kk)
theorem jm_V4v {sc : jm_S} {Y Yc : jm_Y} {pc idx ci nf b : Nat} {ls : jm_Ls} {rest : List Value} {M : jm_M} {Q Qc : Option Value → jm_M → Prop} {a0 a1 a2 a3 : Value} (d : decode Y.2.1 pc = .ok (.invokevirtual idx, 3)) (L : jm_LV Y.1.cls idx Yc 4 ci) (hty : Yc.2.2.2.1 = none) (hob : jm_ob b = some (ci, nf)) (h0 : a0.category = 1) (h1 : a1.category = 1) (h2 : a2.category = 1) (h3 : a3.category = 1) (hen : 5 ≤ Yc.2.2.1) (hw : (rest.map fun v => v.category).sum ≤ 8) (hR : Yc.2.2.2.2.1 + 1 ≤ Y.2.2.2.2.1 ∧ 8 + (Yc.2.2.1 + 11) + Yc.2.2.2.2.2 ≤ Y.2.2.2.2.2) (hc : jm_J none Yc 0 (jm_en Yc.2.2.1 [.ref b, a0, a1, a2, a3]) [] M Qc) (kk : ∀ (M1 : jm_M), Qc none M1 → jm_J sc Y (pc + 3) ls rest M1 Q) : jm_J sc Y pc ls (a3 :: a2 :: a1 :: a0 :: .ref b :: rest) M Q := jm_cVv (As := [a0, a1, a2, a3]) (rest := rest) d L hty hob rfl rfl (fun v hv => by simp only [List.mem_cons, List.not_mem_nil, or_false] at hv; rcases hv with rfl | rfl | rfl | rfl <;> assumption) hen hw hR hc kk
theorem jm_V4ve {sc : jm_S} {Y Yc : jm_Y} {pc idx ci nf b : Nat} {ls : jm_Ls} {rest : List Value} {M M1 : jm_M} {Q : Option Value → jm_M → Prop} {a0 a1 a2 a3 : Value} (d : decode Y.2.1 pc = .ok (.invokevirtual idx, 3)) (L : jm_LV Y.1.cls idx Yc 4 ci) (hty : Yc.2.2.2.1 = none) (hob : jm_ob b = some (ci, nf)) (h0 : a0.category = 1) (h1 : a1.category = 1) (h2 : a2.category = 1) (h3 : a3.category = 1) (hen : 5 ≤ Yc.2.2.1) (hw : (rest.map fun v => v.category).sum ≤ 8) (hR : Yc.2.2.2.2.1 + 1 ≤ Y.2.2.2.2.1 ∧ 8 + (Yc.2.2.1 + 11) + Yc.2.2.2.2.2 ≤ Y.2.2.2.2.2) (hc : jm_J none Yc 0 (jm_en Yc.2.2.1 [.ref b, a0, a1, a2, a3]) [] M (jm_is none M1)) (kk : jm_J sc Y (pc + 3) ls rest M1 Q) : jm_J sc Y pc ls (a3 :: a2 :: a1 :: a0 :: .ref b :: rest) M Q := jm_V4v d L hty hob h0 h1 h2 h3 hen hw hR hc (fun M1' h => by obtain ⟨-, rfl⟩ := h; exact kk)
theorem jm_S4i {sc : jm_S} {Y Yc : jm_Y} {pc idx : Nat} {ls : jm_Ls} {rest : List Value} {M : jm_M} {Q Qc : Option Value → jm_M → Prop} {a0 a1 a2 a3 : Value} (d : decode Y.2.1 pc = .ok (.invokestatic idx, 3)) (L : jm_LS Y.1.cls idx Yc 4) (hty : ∃ ty, Yc.2.2.2.1 = some ty) (h0 : a0.category = 1) (h1 : a1.category = 1) (h2 : a2.category = 1) (h3 : a3.category = 1) (hen : 4 ≤ Yc.2.2.1) (hw : (rest.map fun v => v.category).sum ≤ 8) (hR : Yc.2.2.2.2.1 + 1 ≤ Y.2.2.2.2.1 ∧ 8 + (Yc.2.2.1 + 11) + Yc.2.2.2.2.2 ≤ Y.2.2.2.2.2) (hc : jm_J none Yc 0 (jm_en Yc.2.2.1 [a0, a1, a2, a3]) [] M Qc) (kk : ∀ (r : Int32) (M1 : jm_M), Qc (some (.int r)) M1 → jm_J sc Y (pc + 3) ls (.int r :: rest) M1 Q) : jm_J sc Y pc ls (a3 :: a2 :: a1 :: a0 :: rest) M Q := jm_cSi (ci := 0) (nf := 0) (b := 0) (As := [a0, a1, a2, a3]) (rest := rest) d L hty rfl rfl (fun v hv => by simp only [List.mem_cons, List.not_mem_nil, or_false] at hv; rcases hv with rfl | rfl | rfl | rfl <;> assumption) hen hw hR hc kk
theorem jm_S4ie {sc : jm_S} {Y Yc : jm_Y} {pc idx : Nat} {ls : jm_Ls} {rest : List Value} {M M1 : jm_M} {Q : Option Value → jm_M → Prop} {r : Int32} {a0 a1 a2 a3 : Value} (d : decode Y.2.1 pc = .ok (.invokestatic idx, 3)) (L : jm_LS Y.1.cls idx Yc 4) (hty : ∃ ty, Yc.2.2.2.1 = some ty) (h0 : a0.category = 1) (h1 : a1.category = 1) (h2 : a2.category = 1) (h3 : a3.category = 1) (hen : 4 ≤ Yc.2.2.1) (hw : (rest.map fun v => v.category).sum ≤ 8) (hR : Yc.2.2.2.2.1 + 1 ≤ Y.2.2.2.2.1 ∧ 8 + (Yc.2.2.1 + 11) + Yc.2.2.2.2.2 ≤ Y.2.2.2.2.2) (hc : jm_J none Yc 0 (jm_en Yc.2.2.1 [a0, a1, a2, a3]) [] M (jm_is (some (.int r)) M1)) (kk : jm_J sc Y (pc + 3) ls (.int r :: rest) M1 Q) : jm_J sc Y pc ls (a3 :: a2 :: a1 :: a0 :: rest) M Q := jm_S4i d L hty h0 h1 h2 h3 hen hw hR hc (fun r' M1' h => by obtain ⟨h1, rfl⟩ := h; cases h1; exact kk)
theorem jm_S4v {sc : jm_S} {Y Yc : jm_Y} {pc idx : Nat} {ls : jm_Ls} {rest : List Value} {M : jm_M} {Q Qc : Option Value → jm_M → Prop} {a0 a1 a2 a3 : Value} (d : decode Y.2.1 pc = .ok (.invokestatic idx, 3)) (L : jm_LS Y.1.cls idx Yc 4) (hty : Yc.2.2.2.1 = none) (h0 : a0.category = 1) (h1 : a1.category = 1) (h2 : a2.category = 1) (h3 : a3.category = 1) (hen : 4 ≤ Yc.2.2.1) (hw : (rest.map fun v => v.category).sum ≤ 8) (hR : Yc.2.2.2.2.1 + 1 ≤ Y.2.2.2.2.1 ∧ 8 + (Yc.2.2.1 + 11) + Yc.2.2.2.2.2 ≤ Y.2.2.2.2.2) (hc : jm_J none Yc 0 (jm_en Yc.2.2.1 [a0, a1, a2, a3]) [] M Qc) (kk : ∀ (M1 : jm_M), Qc none M1 → jm_J sc Y (pc + 3) ls rest M1 Q) : jm_J sc Y pc ls (a3 :: a2 :: a1 :: a0 :: rest) M Q := jm_cSv (ci := 0) (nf := 0) (b := 0) (As := [a0, a1, a2, a3]) (rest := rest) d L hty rfl rfl (fun v hv => by simp only [List.mem_cons, List.not_mem_nil, or_false] at hv; rcases hv with rfl | rfl | rfl | rfl <;> assumption) hen hw hR hc kk
theorem jm_S4ve {sc : jm_S} {Y Yc : jm_Y} {pc idx : Nat} {ls : jm_Ls} {rest : List Value} {M M1 : jm_M} {Q : Option Value → jm_M → Prop} {a0 a1 a2 a3 : Value} (d : decode Y.2.1 pc = .ok (.invokestatic idx, 3)) (L : jm_LS Y.1.cls idx Yc 4) (hty : Yc.2.2.2.1 = none) (h0 : a0.category = 1) (h1 : a1.category = 1) (h2 : a2.category = 1) (h3 : a3.category = 1) (hen : 4 ≤ Yc.2.2.1) (hw : (rest.map fun v => v.category).sum ≤ 8) (hR : Yc.2.2.2.2.1 + 1 ≤ Y.2.2.2.2.1 ∧ 8 + (Yc.2.2.1 + 11) + Yc.2.2.2.2.2 ≤ Y.2.2.2.2.2) (hc : jm_J none Yc 0 (jm_en Yc.2.2.1 [a0, a1, a2, a3]) [] M (jm_is none M1)) (kk : jm_J sc Y (pc + 3) ls rest M1 Q) : jm_J sc Y pc ls (a3 :: a2 :: a1 :: a0 :: rest) M Q := jm_S4v d L hty h0 h1 h2 h3 hen hw hR hc (fun M1' h => by obtain ⟨-, rfl⟩ := h; exact kk)
theorem jm_V5i {sc : jm_S} {Y Yc : jm_Y} {pc idx ci nf b : Nat} {ls : jm_Ls} {rest : List Value} {M : jm_M} {Q Qc : Option Value → jm_M → Prop} {a0 a1 a2 a3 a4 : Value} (d : decode Y.2.1 pc = .ok (.invokevirtual idx, 3)) (L : jm_LV Y.1.cls idx Yc 5 ci) (hty : ∃ ty, Yc.2.2.2.1 = some ty) (hob : jm_ob b = some (ci, nf)) (h0 : a0.category = 1) (h1 : a1.category = 1) (h2 : a2.category = 1) (h3 : a3.category = 1) (h4 : a4.category = 1) (hen : 6 ≤ Yc.2.2.1) (hw : (rest.map fun v => v.category).sum ≤ 8) (hR : Yc.2.2.2.2.1 + 1 ≤ Y.2.2.2.2.1 ∧ 8 + (Yc.2.2.1 + 11) + Yc.2.2.2.2.2 ≤ Y.2.2.2.2.2) (hc : jm_J none Yc 0 (jm_en Yc.2.2.1 [.ref b, a0, a1, a2, a3, a4]) [] M Qc) (kk : ∀ (r : Int32) (M1 : jm_M), Qc (some (.int r)) M1 → jm_J sc Y (pc + 3) ls (.int r :: rest) M1 Q) : jm_J sc Y pc ls (a4 :: a3 :: a2 :: a1 :: a0 :: .ref b :: rest) M Q := jm_cVi (As := [a0, a1, a2, a3, a4]) (rest := rest) d L hty hob rfl rfl (fun v hv => by simp only [List.mem_cons, List.not_mem_nil, or_false] at hv; rcases hv with rfl | rfl | rfl | rfl | rfl <;> assumption) hen hw hR hc kk
theorem jm_V5ie {sc : jm_S} {Y Yc : jm_Y} {pc idx ci nf b : Nat} {ls : jm_Ls} {rest : List Value} {M M1 : jm_M} {Q : Option Value → jm_M → Prop} {r : Int32} {a0 a1 a2 a3 a4 : Value} (d : decode Y.2.1 pc = .ok (.invokevirtual idx, 3)) (L : jm_LV Y.1.cls idx Yc 5 ci) (hty : ∃ ty, Yc.2.2.2.1 = some ty) (hob : jm_ob b = some (ci, nf)) (h0 : a0.category = 1) (h1 : a1.category = 1) (h2 : a2.category = 1) (h3 : a3.category = 1) (h4 : a4.category = 1) (hen : 6 ≤ Yc.2.2.1) (hw : (rest.map fun v => v.category).sum ≤ 8) (hR : Yc.2.2.2.2.1 + 1 ≤ Y.2.2.2.2.1 ∧ 8 + (Yc.2.2.1 + 11) + Yc.2.2.2.2.2 ≤ Y.2.2.2.2.2) (hc : jm_J none Yc 0 (jm_en Yc.2.2.1 [.ref b, a0, a1, a2, a3, a4]) [] M (jm_is (some (.int r)) M1)) (kk : jm_J sc Y (pc + 3) ls (.int r :: rest) M1 Q) : jm_J sc Y pc ls (a4 :: a3 :: a2 :: a1 :: a0 :: .ref b :: rest) M Q := jm_V5i d L hty hob h0 h1 h2 h3 h4 hen hw hR hc (fun r' M1' h => by obtain ⟨h1, rfl⟩ := h; cases h1; exact kk)
theorem jm_V5v {sc : jm_S} {Y Yc : jm_Y} {pc idx ci nf b : Nat} {ls : jm_Ls} {rest : List Value} {M : jm_M} {Q Qc : Option Value → jm_M → Prop} {a0 a1 a2 a3 a4 : Value} (d : decode Y.2.1 pc = .ok (.invokevirtual idx, 3)) (L : jm_LV Y.1.cls idx Yc 5 ci) (hty : Yc.2.2.2.1 = none) (hob : jm_ob b = some (ci, nf)) (h0 : a0.category = 1) (h1 : a1.category = 1) (h2 : a2.category = 1) (h3 : a3.category = 1) (h4 : a4.category = 1) (hen : 6 ≤ Yc.2.2.1) (hw : (rest.map fun v => v.category).sum ≤ 8) (hR : Yc.2.2.2.2.1 + 1 ≤ Y.2.2.2.2.1 ∧ 8 + (Yc.2.2.1 + 11) + Yc.2.2.2.2.2 ≤ Y.2.2.2.2.2) (hc : jm_J none Yc 0 (jm_en Yc.2.2.1 [.ref b, a0, a1, a2, a3, a4]) [] M Qc) (kk : ∀ (M1 : jm_M), Qc none M1 → jm_J sc Y (pc + 3) ls rest M1 Q) : jm_J sc Y pc ls (a4 :: a3 :: a2 :: a1 :: a0 :: .ref b :: rest) M Q := jm_cVv (As := [a0, a1, a2, a3, a4]) (rest := rest) d L hty hob rfl rfl (fun v hv => by simp only [List.mem_cons, List.not_mem_nil, or_false] at hv; rcases hv with rfl | rfl | rfl | rfl | rfl <;> assumption) hen hw hR hc kk
theorem jm_V5ve {sc : jm_S} {Y Yc : jm_Y} {pc idx ci nf b : Nat} {ls : jm_Ls} {rest : List Value} {M M1 : jm_M} {Q : Option Value → jm_M → Prop} {a0 a1 a2 a3 a4 : Value} (d : decode Y.2.1 pc = .ok (.invokevirtual idx, 3)) (L : jm_LV Y.1.cls idx Yc 5 ci) (hty : Yc.2.2.2.1 = none) (hob : jm_ob b = some (ci, nf)) (h0 : a0.category = 1) (h1 : a1.category = 1) (h2 : a2.category = 1) (h3 : a3.category = 1) (h4 : a4.category = 1) (hen : 6 ≤ Yc.2.2.1) (hw : (rest.map fun v => v.category).sum ≤ 8) (hR : Yc.2.2.2.2.1 + 1 ≤ Y.2.2.2.2.1 ∧ 8 + (Yc.2.2.1 + 11) + Yc.2.2.2.2.2 ≤ Y.2.2.2.2.2) (hc : jm_J none Yc 0 (jm_en Yc.2.2.1 [.ref b, a0, a1, a2, a3, a4]) [] M (jm_is none M1)) (kk : jm_J sc Y (pc + 3) ls rest M1 Q) : jm_J sc Y pc ls (a4 :: a3 :: a2 :: a1 :: a0 :: .ref b :: rest) M Q := jm_V5v d L hty hob h0 h1 h2 h3 h4 hen hw hR hc (fun M1' h => by obtain ⟨-, rfl⟩ := h; exact kk)
theorem jm_S5i {sc : jm_S} {Y Yc : jm_Y} {pc idx : Nat} {ls : jm_Ls} {rest : List Value} {M : jm_M} {Q Qc : Option Value → jm_M → Prop} {a0 a1 a2 a3 a4 : Value} (d : decode Y.2.1 pc = .ok (.invokestatic idx, 3)) (L : jm_LS Y.1.cls idx Yc 5) (hty : ∃ ty, Yc.2.2.2.1 = some ty) (h0 : a0.category = 1) (h1 : a1.category = 1) (h2 : a2.category = 1) (h3 : a3.category = 1) (h4 : a4.category = 1) (hen : 5 ≤ Yc.2.2.1) (hw : (rest.map fun v => v.category).sum ≤ 8) (hR : Yc.2.2.2.2.1 + 1 ≤ Y.2.2.2.2.1 ∧ 8 + (Yc.2.2.1 + 11) + Yc.2.2.2.2.2 ≤ Y.2.2.2.2.2) (hc : jm_J none Yc 0 (jm_en Yc.2.2.1 [a0, a1, a2, a3, a4]) [] M Qc) (kk : ∀ (r : Int32) (M1 : jm_M), Qc (some (.int r)) M1 → jm_J sc Y (pc + 3) ls (.int r :: rest) M1 Q) : jm_J sc Y pc ls (a4 :: a3 :: a2 :: a1 :: a0 :: rest) M Q := jm_cSi (ci := 0) (nf := 0) (b := 0) (As := [a0, a1, a2, a3, a4]) (rest := rest) d L hty rfl rfl (fun v hv => by simp only [List.mem_cons, List.not_mem_nil, or_false] at hv; rcases hv with rfl | rfl | rfl | rfl | rfl <;> assumption) hen hw hR hc kk
theorem jm_S5ie {sc : jm_S} {Y Yc : jm_Y} {pc idx : Nat} {ls : jm_Ls} {rest : List Value} {M M1 : jm_M} {Q : Option Value → jm_M → Prop} {r : Int32} {a0 a1 a2 a3 a4 : Value} (d : decode Y.2.1 pc = .ok (.invokestatic idx, 3)) (L : jm_LS Y.1.cls idx Yc 5) (hty : ∃ ty, Yc.2.2.2.1 = some ty) (h0 : a0.category = 1) (h1 : a1.category = 1) (h2 : a2.category = 1) (h3 : a3.category = 1) (h4 : a4.category = 1) (hen : 5 ≤ Yc.2.2.1) (hw : (rest.map fun v => v.category).sum ≤ 8) (hR : Yc.2.2.2.2.1 + 1 ≤ Y.2.2.2.2.1 ∧ 8 + (Yc.2.2.1 + 11) + Yc.2.2.2.2.2 ≤ Y.2.2.2.2.2) (hc : jm_J none Yc 0 (jm_en Yc.2.2.1 [a0, a1, a2, a3, a4]) [] M (jm_is (some (.int r)) M1)) (kk : jm_J sc Y (pc + 3) ls (.int r :: rest) M1 Q) : jm_J sc Y pc ls (a4 :: a3 :: a2 :: a1 :: a0 :: rest) M Q := jm_S5i d L hty h0 h1 h2 h3 h4 hen hw hR hc (fun r' M1' h => by obtain ⟨h1, rfl⟩ := h; cases h1; exact kk)
theorem jm_S5v {sc : jm_S} {Y Yc : jm_Y} {pc idx : Nat} {ls : jm_Ls} {rest : List Value} {M : jm_M} {Q Qc : Option Value → jm_M → Prop} {a0 a1 a2 a3 a4 : Value} (d : decode Y.2.1 pc = .ok (.invokestatic idx, 3)) (L : jm_LS Y.1.cls idx Yc 5) (hty : Yc.2.2.2.1 = none) (h0 : a0.category = 1) (h1 : a1.category = 1) (h2 : a2.category = 1) (h3 : a3.category = 1) (h4 : a4.category = 1) (hen : 5 ≤ Yc.2.2.1) (hw : (rest.map fun v => v.category).sum ≤ 8) (hR : Yc.2.2.2.2.1 + 1 ≤ Y.2.2.2.2.1 ∧ 8 + (Yc.2.2.1 + 11) + Yc.2.2.2.2.2 ≤ Y.2.2.2.2.2) (hc : jm_J none Yc 0 (jm_en Yc.2.2.1 [a0, a1, a2, a3, a4]) [] M Qc) (kk : ∀ (M1 : jm_M), Qc none M1 → jm_J sc Y (pc + 3) ls rest M1 Q) : jm_J sc Y pc ls (a4 :: a3 :: a2 :: a1 :: a0 :: rest) M Q := jm_cSv (ci := 0) (nf := 0) (b := 0) (As := [a0, a1, a2, a3, a4]) (rest := rest) d L hty rfl rfl (fun v hv => by simp only [List.mem_cons, List.not_mem_nil, or_false] at hv; rcases hv with rfl | rfl | rfl | rfl | rfl <;> assumption) hen hw hR hc kk
theorem jm_S5ve {sc : jm_S} {Y Yc : jm_Y} {pc idx : Nat} {ls : jm_Ls} {rest : List Value} {M M1 : jm_M} {Q : Option Value → jm_M → Prop} {a0 a1 a2 a3 a4 : Value} (d : decode Y.2.1 pc = .ok (.invokestatic idx, 3)) (L : jm_LS Y.1.cls idx Yc 5) (hty : Yc.2.2.2.1 = none) (h0 : a0.category = 1) (h1 : a1.category = 1) (h2 : a2.category = 1) (h3 : a3.category = 1) (h4 : a4.category = 1) (hen : 5 ≤ Yc.2.2.1) (hw : (rest.map fun v => v.category).sum ≤ 8) (hR : Yc.2.2.2.2.1 + 1 ≤ Y.2.2.2.2.1 ∧ 8 + (Yc.2.2.1 + 11) + Yc.2.2.2.2.2 ≤ Y.2.2.2.2.2) (hc : jm_J none Yc 0 (jm_en Yc.2.2.1 [a0, a1, a2, a3, a4]) [] M (jm_is none M1)) (kk : jm_J sc Y (pc + 3) ls rest M1 Q) : jm_J sc Y pc ls (a4 :: a3 :: a2 :: a1 :: a0 :: rest) M Q := jm_S5v d L hty h0 h1 h2 h3 h4 hen hw hR hc (fun M1' h => by obtain ⟨-, rfl⟩ := h; exact kk)
end
section
/-! the smallest methods of both sides -/
def jm_b (p : Prop) [Decidable p] : Int32 := if p then nI 1 else nI 0
theorem jm_b_t {p : Prop} [Decidable p] (h : p) : jm_b p = nI 1 := if_pos h
theorem jm_b_f {p : Prop} [Decidable p] (h : ¬ p) : jm_b p = nI 0 := if_neg h
theorem jm_b_c {p q : Prop} [Decidable p] [Decidable q] (h : p ↔ q) : jm_b p = jm_b q := by
  by_cases hp : p
  · rw [jm_b_t hp, jm_b_t (h.mp hp)]
  · rw [jm_b_f hp, jm_b_f (fun z => hp (h.mpr z))]
theorem jm_nb (p : Prop) [Decidable p] : narrow .boolean (.int (jm_b p)) = .int (jm_b p) := by
  by_cases hp : p
  · rw [jm_b_t hp]; rfl
  · rw [jm_b_f hp]; rfl
theorem jm_if_eqB {sc : jm_S} {Y : jm_Y} {pc : Nat} {ls : jm_Ls} {st : List Value} {M : jm_M} {Q : Option Value → jm_M → Prop} {p : Prop} [Decidable p] {off : Int} {tgt : Nat} (d : decode Y.2.1 pc = .ok (.ifCond .eq off, 3)) (ht : (pc : Int) + off = (tgt : Int)) (kt : ¬ p → jm_J sc Y tgt ls st M Q) (kf : p → jm_J sc Y (pc + 3) ls st M Q) : jm_J sc Y pc ls (.int (jm_b p) :: st) M Q := by
  refine jm_if_eq d ht (fun h => kt (fun hp => ?_)) (fun h => kf ?_)
  · rw [jm_b_t hp] at h; exact absurd h (by decide)
  · by_cases hp : p
    · exact hp
    · rw [jm_b_f hp] at h; exact absurd rfl h
theorem jm_if_neB {sc : jm_S} {Y : jm_Y} {pc : Nat} {ls : jm_Ls} {st : List Value} {M : jm_M} {Q : Option Value → jm_M → Prop} {p : Prop} [Decidable p] {off : Int} {tgt : Nat} (d : decode Y.2.1 pc = .ok (.ifCond .ne off, 3)) (ht : (pc : Int) + off = (tgt : Int)) (kt : p → jm_J sc Y tgt ls st M Q) (kf : ¬ p → jm_J sc Y (pc + 3) ls st M Q) : jm_J sc Y pc ls (.int (jm_b p) :: st) M Q := by
  refine jm_if_ne d ht (fun h => kt ?_) (fun h => kf (fun hp => ?_))
  · by_cases hp : p
    · exact hp
    · rw [jm_b_f hp] at h; exact absurd rfl h
  · rw [jm_b_t hp] at h
    first | exact absurd h (by decide) | exact h (by decide)
theorem jm_bf {p : Prop} [Decidable p] {M : jm_M} (h : ¬ p) : jm_is (some (.int (jm_b p))) M (some (.int (nI 0))) M := ⟨by rw [jm_b_f h], rfl⟩
theorem jm_bt {p : Prop} [Decidable p] {M : jm_M} (h : p) : jm_is (some (.int (jm_b p))) M (some (.int (nI 1))) M := ⟨by rw [jm_b_t h], rfl⟩
theorem i_nle {a b : Int32} (h : a < b) : ¬ b ≤ a := Int32.not_le.mpr h
theorem i_le {a b : Int32} (h : ¬ a < b) : b ≤ a := Int32.not_lt.mp h
theorem i_lt {a b : Int32} (h : ¬ a ≤ b) : b < a := Int32.not_le.mp h
theorem c_in (v lo hi : Int32) (M : jm_M) : jm_J none YX6_in 0 [some (.int v), some (.int lo), some (.int hi)] [] M (jm_is (some (.int (jm_b (lo ≤ v ∧ v ≤ hi)))) M) := by
  refine jm_ild_n (Y := YX6_in) (pc := 0) (i := 0) dX6_in_0 rfl rfl ?_
  refine jm_ild_n (Y := YX6_in) (pc := 1) (i := 1) dX6_in_1 rfl rfl ?_
  refine jm_icmp_lt (Y := YX6_in) (pc := 2) dX6_in_2 rfl (fun h_2 => ?_) (fun h_2 => ?_)
  · refine jm_icN (Y := YX6_in) (pc := 14) 0 dX6_in_14 rfl ?_
    refine jm_ret (Y := YX6_in) (pc := 15) (st := []) dX6_in_15 rfl rfl ?_
    first | exact jm_bf (fun q => i_nle h_2 q.1) | exact jm_bf (fun q => i_nle h_7 q.2) | exact jm_bt ⟨i_le h_2, i_le h_7⟩
  · refine jm_ild_n (Y := YX6_in) (pc := 5) (i := 0) dX6_in_5 rfl rfl ?_
    refine jm_ild_n (Y := YX6_in) (pc := 6) (i := 2) dX6_in_6 rfl rfl ?_
    refine jm_icmp_gt (Y := YX6_in) (pc := 7) dX6_in_7 rfl (fun h_7 => ?_) (fun h_7 => ?_)
    · refine jm_icN (Y := YX6_in) (pc := 14) 0 dX6_in_14 rfl ?_
      refine jm_ret (Y := YX6_in) (pc := 15) (st := []) dX6_in_15 rfl rfl ?_
      first | exact jm_bf (fun q => i_nle h_2 q.1) | exact jm_bf (fun q => i_nle h_7 q.2) | exact jm_bt ⟨i_le h_2, i_le h_7⟩
    · refine jm_icN (Y := YX6_in) (pc := 10) 1 dX6_in_10 rfl ?_
      refine jm_goto (Y := YX6_in) (pc := 11) dX6_in_11 rfl ?_
      refine jm_ret (Y := YX6_in) (pc := 15) (st := []) dX6_in_15 rfl rfl ?_
      first | exact jm_bf (fun q => i_nle h_2 q.1) | exact jm_bf (fun q => i_nle h_7 q.2) | exact jm_bt ⟨i_le h_2, i_le h_7⟩
theorem c_isWithin (v lo hi : Int32) (M : jm_M) : jm_J none YX5_isWithin 0 [some (.int v), some (.int lo), some (.int hi)] [] M (jm_is (some (.int (jm_b (lo ≤ v ∧ v ≤ hi)))) M) := by
  refine jm_ild_n (Y := YX5_isWithin) (pc := 0) (i := 1) dX5_isWithin_0 rfl rfl ?_
  refine jm_ild_n (Y := YX5_isWithin) (pc := 1) (i := 0) dX5_isWithin_1 rfl rfl ?_
  refine jm_icmp_gt (Y := YX5_isWithin) (pc := 2) dX5_isWithin_2 rfl (fun h_2 => ?_) (fun h_2 => ?_)
  · refine jm_icN (Y := YX5_isWithin) (pc := 14) 0 dX5_isWithin_14 rfl ?_
    refine jm_ret (Y := YX5_isWithin) (pc := 15) (st := []) dX5_isWithin_15 rfl rfl ?_
    first | exact jm_bf (fun q => i_nle h_2 q.1) | exact jm_bf (fun q => i_nle h_7 q.2) | exact jm_bt ⟨i_le h_2, i_le h_7⟩
  · refine jm_ild_n (Y := YX5_isWithin) (pc := 5) (i := 0) dX5_isWithin_5 rfl rfl ?_
    refine jm_ild_n (Y := YX5_isWithin) (pc := 6) (i := 2) dX5_isWithin_6 rfl rfl ?_
    refine jm_icmp_gt (Y := YX5_isWithin) (pc := 7) dX5_isWithin_7 rfl (fun h_7 => ?_) (fun h_7 => ?_)
    · refine jm_icN (Y := YX5_isWithin) (pc := 14) 0 dX5_isWithin_14 rfl ?_
      refine jm_ret (Y := YX5_isWithin) (pc := 15) (st := []) dX5_isWithin_15 rfl rfl ?_
      first | exact jm_bf (fun q => i_nle h_2 q.1) | exact jm_bf (fun q => i_nle h_7 q.2) | exact jm_bt ⟨i_le h_2, i_le h_7⟩
    · refine jm_icN (Y := YX5_isWithin) (pc := 10) 1 dX5_isWithin_10 rfl ?_
      refine jm_goto (Y := YX5_isWithin) (pc := 11) dX5_isWithin_11 rfl ?_
      refine jm_ret (Y := YX5_isWithin) (pc := 15) (st := []) dX5_isWithin_15 rfl rfl ?_
      first | exact jm_bf (fun q => i_nle h_2 q.1) | exact jm_bf (fun q => i_nle h_7 q.2) | exact jm_bt ⟨i_le h_2, i_le h_7⟩
end
