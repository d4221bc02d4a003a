section
-- ===== PART A: goes FIRST, ahead of the names: the tables' words, and 'selects' of the private methods out of them =====
/-- a private method of a class that the tables say can be made, by its rows of tables_1 -/
def lw_okq (q : MethodName × Nat) : Prop := (q.1.cls ≠ "java/lang/invoke/MethodHandle" ∧ q.1.cls ≠ "java/lang/invoke/VarHandle") ∧ Cond.instantiable q.1.cls q.2 ∈ tables_1 ∧ Cond.privateMethod q.1 ∈ tables_1 ∧ Cond.instanceMethod q.1 ∈ tables_1
theorem lw_p0 : lw_okq (⟨"CutProofs$RoundingSearch", "moveSumTo", "(I)V"⟩, 4) := ⟨⟨by decide +kernel, by decide +kernel⟩, List.mem_of_getElem? (i := 174) (by decide +kernel), List.mem_of_getElem? (i := 338) (by decide +kernel), List.mem_of_getElem? (i := 339) (by decide +kernel)⟩
theorem lw_p1 : lw_okq (⟨"CutProofs$RoundingSearch", "tryHalves", "(I)Z"⟩, 4) := ⟨⟨by decide +kernel, by decide +kernel⟩, List.mem_of_getElem? (i := 174) (by decide +kernel), List.mem_of_getElem? (i := 345) (by decide +kernel), List.mem_of_getElem? (i := 346) (by decide +kernel)⟩
theorem lw_p2 : lw_okq (⟨"CutProofs$RoundingSearch", "isHighNearer", "(I)Z"⟩, 4) := ⟨⟨by decide +kernel, by decide +kernel⟩, List.mem_of_getElem? (i := 174) (by decide +kernel), List.mem_of_getElem? (i := 361) (by decide +kernel), List.mem_of_getElem? (i := 362) (by decide +kernel)⟩
theorem lw_p3 : lw_okq (⟨"CutProofs$RoundingSearch", "takeHigh", "(LCutProofs$Cut;II)V"⟩, 4) := ⟨⟨by decide +kernel, by decide +kernel⟩, List.mem_of_getElem? (i := 174) (by decide +kernel), List.mem_of_getElem? (i := 367) (by decide +kernel), List.mem_of_getElem? (i := 368) (by decide +kernel)⟩
theorem lw_p4 : lw_okq (⟨"CutProofs$RoundingSearch", "takeLow", "(LCutProofs$Cut;II)V"⟩, 4) := ⟨⟨by decide +kernel, by decide +kernel⟩, List.mem_of_getElem? (i := 174) (by decide +kernel), List.mem_of_getElem? (i := 371) (by decide +kernel), List.mem_of_getElem? (i := 372) (by decide +kernel)⟩
theorem lw_p5 : lw_okq (⟨"CutProofs$RoundingSearch", "divideAndSettle", "(LCutProofs$Cut;I)Z"⟩, 4) := ⟨⟨by decide +kernel, by decide +kernel⟩, List.mem_of_getElem? (i := 174) (by decide +kernel), List.mem_of_getElem? (i := 375) (by decide +kernel), List.mem_of_getElem? (i := 376) (by decide +kernel)⟩
theorem lw_p6 : lw_okq (⟨"CutProofs$CutList", "isToldAlready", "(LCutProofs$Cut;)Z"⟩, 4) := ⟨⟨by decide +kernel, by decide +kernel⟩, List.mem_of_getElem? (i := 89) (by decide +kernel), List.mem_of_getElem? (i := 391) (by decide +kernel), List.mem_of_getElem? (i := 392) (by decide +kernel)⟩
theorem lw_p7 : lw_okq (⟨"CutProofs$RoundingSearch", "tryRounded", "(II)Z"⟩, 4) := ⟨⟨by decide +kernel, by decide +kernel⟩, List.mem_of_getElem? (i := 174) (by decide +kernel), List.mem_of_getElem? (i := 403) (by decide +kernel), List.mem_of_getElem? (i := 404) (by decide +kernel)⟩
theorem lw_p8 : lw_okq (⟨"CutProofs$RoundingSearch", "isLowCheaper", "(III)Z"⟩, 4) := ⟨⟨by decide +kernel, by decide +kernel⟩, List.mem_of_getElem? (i := 174) (by decide +kernel), List.mem_of_getElem? (i := 407) (by decide +kernel), List.mem_of_getElem? (i := 408) (by decide +kernel)⟩
theorem lw_p9 : lw_okq (⟨"CutProofs$CoverSearch", "readLiterals", "(I)V"⟩, 8) := ⟨⟨by decide +kernel, by decide +kernel⟩, List.mem_of_getElem? (i := 193) (by decide +kernel), List.mem_of_getElem? (i := 415) (by decide +kernel), List.mem_of_getElem? (i := 416) (by decide +kernel)⟩
theorem lw_p10 : lw_okq (⟨"CutProofs$CoverSearch", "isMinimalCover", "(I)Z"⟩, 8) := ⟨⟨by decide +kernel, by decide +kernel⟩, List.mem_of_getElem? (i := 193) (by decide +kernel), List.mem_of_getElem? (i := 430) (by decide +kernel), List.mem_of_getElem? (i := 431) (by decide +kernel)⟩
theorem lw_p11 : lw_okq (⟨"CutProofs$CoverSearch", "tryCover", "(II)Z"⟩, 8) := ⟨⟨by decide +kernel, by decide +kernel⟩, List.mem_of_getElem? (i := 193) (by decide +kernel), List.mem_of_getElem? (i := 439) (by decide +kernel), List.mem_of_getElem? (i := 440) (by decide +kernel)⟩
theorem lw_p12 : lw_okq (⟨"CutProofs$CoverSearch", "lift", "(I)V"⟩, 8) := ⟨⟨by decide +kernel, by decide +kernel⟩, List.mem_of_getElem? (i := 193) (by decide +kernel), List.mem_of_getElem? (i := 443) (by decide +kernel), List.mem_of_getElem? (i := 444) (by decide +kernel)⟩
theorem lw_p13 : lw_okq (⟨"CutProofs$CoverSearch", "giveAlpha", "(II)V"⟩, 8) := ⟨⟨by decide +kernel, by decide +kernel⟩, List.mem_of_getElem? (i := 193) (by decide +kernel), List.mem_of_getElem? (i := 454) (by decide +kernel), List.mem_of_getElem? (i := 455) (by decide +kernel)⟩
theorem lw_p14 : lw_okq (⟨"CutProofs$CoverSearch", "greatestSum", "(I)I"⟩, 8) := ⟨⟨by decide +kernel, by decide +kernel⟩, List.mem_of_getElem? (i := 193) (by decide +kernel), List.mem_of_getElem? (i := 458) (by decide +kernel), List.mem_of_getElem? (i := 459) (by decide +kernel)⟩
theorem lw_p15 : lw_okq (⟨"CutProofs$CliqueSearch", "readBinaries", "()V"⟩, 4) := ⟨⟨by decide +kernel, by decide +kernel⟩, List.mem_of_getElem? (i := 224) (by decide +kernel), List.mem_of_getElem? (i := 468) (by decide +kernel), List.mem_of_getElem? (i := 469) (by decide +kernel)⟩
def lw_privs_1 : List (MethodName × Nat) := [(⟨"CutProofs$RoundingSearch", "moveSumTo", "(I)V"⟩, 4), (⟨"CutProofs$RoundingSearch", "tryHalves", "(I)Z"⟩, 4), (⟨"CutProofs$RoundingSearch", "isHighNearer", "(I)Z"⟩, 4), (⟨"CutProofs$RoundingSearch", "takeHigh", "(LCutProofs$Cut;II)V"⟩, 4), (⟨"CutProofs$RoundingSearch", "takeLow", "(LCutProofs$Cut;II)V"⟩, 4), (⟨"CutProofs$RoundingSearch", "divideAndSettle", "(LCutProofs$Cut;I)Z"⟩, 4), (⟨"CutProofs$CutList", "isToldAlready", "(LCutProofs$Cut;)Z"⟩, 4), (⟨"CutProofs$RoundingSearch", "tryRounded", "(II)Z"⟩, 4), (⟨"CutProofs$RoundingSearch", "isLowCheaper", "(III)Z"⟩, 4), (⟨"CutProofs$CoverSearch", "readLiterals", "(I)V"⟩, 8), (⟨"CutProofs$CoverSearch", "isMinimalCover", "(I)Z"⟩, 8), (⟨"CutProofs$CoverSearch", "tryCover", "(II)Z"⟩, 8), (⟨"CutProofs$CoverSearch", "lift", "(I)V"⟩, 8), (⟨"CutProofs$CoverSearch", "giveAlpha", "(II)V"⟩, 8), (⟨"CutProofs$CoverSearch", "greatestSum", "(I)I"⟩, 8), (⟨"CutProofs$CliqueSearch", "readBinaries", "()V"⟩, 4)]
theorem lw_r1 : ∀ q ∈ lw_privs_1, lw_okq q := List.forall_mem_cons.mpr ⟨lw_p0, List.forall_mem_cons.mpr ⟨lw_p1, List.forall_mem_cons.mpr ⟨lw_p2, List.forall_mem_cons.mpr ⟨lw_p3, List.forall_mem_cons.mpr ⟨lw_p4, List.forall_mem_cons.mpr ⟨lw_p5, List.forall_mem_cons.mpr ⟨lw_p6, List.forall_mem_cons.mpr ⟨lw_p7, List.forall_mem_cons.mpr ⟨lw_p8, List.forall_mem_cons.mpr ⟨lw_p9, List.forall_mem_cons.mpr ⟨lw_p10, List.forall_mem_cons.mpr ⟨lw_p11, List.forall_mem_cons.mpr ⟨lw_p12, List.forall_mem_cons.mpr ⟨lw_p13, List.forall_mem_cons.mpr ⟨lw_p14, List.forall_mem_cons.mpr ⟨lw_p15, fun _ h => absurd h List.not_mem_nil⟩⟩⟩⟩⟩⟩⟩⟩⟩⟩⟩⟩⟩⟩⟩⟩
theorem lw_p16 : lw_okq (⟨"CutProofs$CliqueSearch", "readClashes", "()V"⟩, 4) := ⟨⟨by decide +kernel, by decide +kernel⟩, List.mem_of_getElem? (i := 224) (by decide +kernel), List.mem_of_getElem? (i := 473) (by decide +kernel), List.mem_of_getElem? (i := 474) (by decide +kernel)⟩
theorem lw_p17 : lw_okq (⟨"CutProofs$Model", "clashIn", "(III)Z"⟩, 7) := ⟨⟨by decide +kernel, by decide +kernel⟩, List.mem_of_getElem? (i := 28) (by decide +kernel), List.mem_of_getElem? (i := 483) (by decide +kernel), List.mem_of_getElem? (i := 484) (by decide +kernel)⟩
theorem lw_p18 : lw_okq (⟨"CutProofs$CliqueSearch", "isWidestClique", "(I)Z"⟩, 4) := ⟨⟨by decide +kernel, by decide +kernel⟩, List.mem_of_getElem? (i := 224) (by decide +kernel), List.mem_of_getElem? (i := 488) (by decide +kernel), List.mem_of_getElem? (i := 489) (by decide +kernel)⟩
theorem lw_p19 : lw_okq (⟨"CutProofs$CliqueSearch", "tryClique", "(I)Z"⟩, 4) := ⟨⟨by decide +kernel, by decide +kernel⟩, List.mem_of_getElem? (i := 224) (by decide +kernel), List.mem_of_getElem? (i := 493) (by decide +kernel), List.mem_of_getElem? (i := 494) (by decide +kernel)⟩
theorem lw_p20 : lw_okq (⟨"CutProofs", "refusalOfShown", "(LCutProofs$Cut;II)I"⟩, 7) := ⟨⟨by decide +kernel, by decide +kernel⟩, List.mem_of_getElem? (i := 20) (by decide +kernel), List.mem_of_getElem? (i := 511) (by decide +kernel), List.mem_of_getElem? (i := 512) (by decide +kernel)⟩
theorem lw_p21 : lw_okq (⟨"CutProofs", "refusalOfPlanted", "(LCutProofs$Cut;II)I"⟩, 7) := ⟨⟨by decide +kernel, by decide +kernel⟩, List.mem_of_getElem? (i := 20) (by decide +kernel), List.mem_of_getElem? (i := 523) (by decide +kernel), List.mem_of_getElem? (i := 524) (by decide +kernel)⟩
theorem lw_p22 : lw_okq (⟨"CutProofs$Checker", "acceptsRounding", "(LCutProofs$Cut;)Z"⟩, 1) := ⟨⟨by decide +kernel, by decide +kernel⟩, List.mem_of_getElem? (i := 243) (by decide +kernel), List.mem_of_getElem? (i := 539) (by decide +kernel), List.mem_of_getElem? (i := 540) (by decide +kernel)⟩
theorem lw_p23 : lw_okq (⟨"CutProofs$Checker", "isTakenBelowZero", "(LCutProofs$Cut;)Z"⟩, 1) := ⟨⟨by decide +kernel, by decide +kernel⟩, List.mem_of_getElem? (i := 243) (by decide +kernel), List.mem_of_getElem? (i := 543) (by decide +kernel), List.mem_of_getElem? (i := 544) (by decide +kernel)⟩
theorem lw_p24 : lw_okq (⟨"CutProofs$Checker", "comingFactor", "(LCutProofs$Cut;I)J"⟩, 1) := ⟨⟨by decide +kernel, by decide +kernel⟩, List.mem_of_getElem? (i := 243) (by decide +kernel), List.mem_of_getElem? (i := 547) (by decide +kernel), List.mem_of_getElem? (i := 548) (by decide +kernel)⟩
theorem lw_p25 : lw_okq (⟨"CutProofs$Checker", "acceptsCover", "(LCutProofs$Cut;)Z"⟩, 1) := ⟨⟨by decide +kernel, by decide +kernel⟩, List.mem_of_getElem? (i := 243) (by decide +kernel), List.mem_of_getElem? (i := 554) (by decide +kernel), List.mem_of_getElem? (i := 555) (by decide +kernel)⟩
theorem lw_p26 : lw_okq (⟨"CutProofs$Checker", "sumOver", "([II)I"⟩, 1) := ⟨⟨by decide +kernel, by decide +kernel⟩, List.mem_of_getElem? (i := 243) (by decide +kernel), List.mem_of_getElem? (i := 561) (by decide +kernel), List.mem_of_getElem? (i := 562) (by decide +kernel)⟩
theorem lw_p27 : lw_okq (⟨"CutProofs$Checker", "acceptsClique", "(LCutProofs$Cut;)Z"⟩, 1) := ⟨⟨by decide +kernel, by decide +kernel⟩, List.mem_of_getElem? (i := 243) (by decide +kernel), List.mem_of_getElem? (i := 566) (by decide +kernel), List.mem_of_getElem? (i := 567) (by decide +kernel)⟩
theorem lw_p28 : lw_okq (⟨"CutProofs$ChoiceWalk", "choose", "(II)V"⟩, 3) := ⟨⟨by decide +kernel, by decide +kernel⟩, List.mem_of_getElem? (i := 253) (by decide +kernel), List.mem_of_getElem? (i := 590) (by decide +kernel), List.mem_of_getElem? (i := 591) (by decide +kernel)⟩
theorem lw_p29 : lw_okq (⟨"CutProofs", "countBroken", "()I"⟩, 7) := ⟨⟨by decide +kernel, by decide +kernel⟩, List.mem_of_getElem? (i := 20) (by decide +kernel), List.mem_of_getElem? (i := 622) (by decide +kernel), List.mem_of_getElem? (i := 623) (by decide +kernel)⟩
theorem lw_p30 : lw_okq (⟨"CutProofs", "countAccepted", "()I"⟩, 7) := ⟨⟨by decide +kernel, by decide +kernel⟩, List.mem_of_getElem? (i := 20) (by decide +kernel), List.mem_of_getElem? (i := 626) (by decide +kernel), List.mem_of_getElem? (i := 627) (by decide +kernel)⟩
theorem lw_p31 : lw_okq (⟨"java/lang/Throwable", "fillInStackTrace", "(I)Ljava/lang/Throwable;"⟩, 6) := ⟨⟨by decide +kernel, by decide +kernel⟩, List.mem_of_getElem? (i := 680) (by decide +kernel), List.mem_of_getElem? (i := 678) (by decide +kernel), List.mem_of_getElem? (i := 679) (by decide +kernel)⟩
def lw_privs_2 : List (MethodName × Nat) := [(⟨"CutProofs$CliqueSearch", "readClashes", "()V"⟩, 4), (⟨"CutProofs$Model", "clashIn", "(III)Z"⟩, 7), (⟨"CutProofs$CliqueSearch", "isWidestClique", "(I)Z"⟩, 4), (⟨"CutProofs$CliqueSearch", "tryClique", "(I)Z"⟩, 4), (⟨"CutProofs", "refusalOfShown", "(LCutProofs$Cut;II)I"⟩, 7), (⟨"CutProofs", "refusalOfPlanted", "(LCutProofs$Cut;II)I"⟩, 7), (⟨"CutProofs$Checker", "acceptsRounding", "(LCutProofs$Cut;)Z"⟩, 1), (⟨"CutProofs$Checker", "isTakenBelowZero", "(LCutProofs$Cut;)Z"⟩, 1), (⟨"CutProofs$Checker", "comingFactor", "(LCutProofs$Cut;I)J"⟩, 1), (⟨"CutProofs$Checker", "acceptsCover", "(LCutProofs$Cut;)Z"⟩, 1), (⟨"CutProofs$Checker", "sumOver", "([II)I"⟩, 1), (⟨"CutProofs$Checker", "acceptsClique", "(LCutProofs$Cut;)Z"⟩, 1), (⟨"CutProofs$ChoiceWalk", "choose", "(II)V"⟩, 3), (⟨"CutProofs", "countBroken", "()I"⟩, 7), (⟨"CutProofs", "countAccepted", "()I"⟩, 7), (⟨"java/lang/Throwable", "fillInStackTrace", "(I)Ljava/lang/Throwable;"⟩, 6)]
theorem lw_r2 : ∀ q ∈ lw_privs_2, lw_okq q := List.forall_mem_cons.mpr ⟨lw_p16, List.forall_mem_cons.mpr ⟨lw_p17, List.forall_mem_cons.mpr ⟨lw_p18, List.forall_mem_cons.mpr ⟨lw_p19, List.forall_mem_cons.mpr ⟨lw_p20, List.forall_mem_cons.mpr ⟨lw_p21, List.forall_mem_cons.mpr ⟨lw_p22, List.forall_mem_cons.mpr ⟨lw_p23, List.forall_mem_cons.mpr ⟨lw_p24, List.forall_mem_cons.mpr ⟨lw_p25, List.forall_mem_cons.mpr ⟨lw_p26, List.forall_mem_cons.mpr ⟨lw_p27, List.forall_mem_cons.mpr ⟨lw_p28, List.forall_mem_cons.mpr ⟨lw_p29, List.forall_mem_cons.mpr ⟨lw_p30, List.forall_mem_cons.mpr ⟨lw_p31, fun _ h => absurd h List.not_mem_nil⟩⟩⟩⟩⟩⟩⟩⟩⟩⟩⟩⟩⟩⟩⟩⟩
theorem lw_p32 : lw_okq (⟨"CutProofsModel", "isRow", "(I)Z"⟩, 25) := ⟨⟨by decide +kernel, by decide +kernel⟩, List.mem_of_getElem? (i := 745) (by decide +kernel), List.mem_of_getElem? (i := 843) (by decide +kernel), List.mem_of_getElem? (i := 844) (by decide +kernel)⟩
theorem lw_p33 : lw_okq (⟨"CutProofsModel", "isName", "(I)Z"⟩, 25) := ⟨⟨by decide +kernel, by decide +kernel⟩, List.mem_of_getElem? (i := 745) (by decide +kernel), List.mem_of_getElem? (i := 847) (by decide +kernel), List.mem_of_getElem? (i := 848) (by decide +kernel)⟩
theorem lw_p34 : lw_okq (⟨"CutProofsModel", "halves", "()V"⟩, 25) := ⟨⟨by decide +kernel, by decide +kernel⟩, List.mem_of_getElem? (i := 745) (by decide +kernel), List.mem_of_getElem? (i := 860) (by decide +kernel), List.mem_of_getElem? (i := 861) (by decide +kernel)⟩
theorem lw_p35 : lw_okq (⟨"CutProofsModel", "emptied", "()V"⟩, 25) := ⟨⟨by decide +kernel, by decide +kernel⟩, List.mem_of_getElem? (i := 745) (by decide +kernel), List.mem_of_getElem? (i := 864) (by decide +kernel), List.mem_of_getElem? (i := 865) (by decide +kernel)⟩
theorem lw_p36 : lw_okq (⟨"CutProofsModel", "takeRow", "(I)V"⟩, 25) := ⟨⟨by decide +kernel, by decide +kernel⟩, List.mem_of_getElem? (i := 745) (by decide +kernel), List.mem_of_getElem? (i := 868) (by decide +kernel), List.mem_of_getElem? (i := 869) (by decide +kernel)⟩
theorem lw_p37 : lw_okq (⟨"CutProofsModel", "takeHigh", "(II)V"⟩, 25) := ⟨⟨by decide +kernel, by decide +kernel⟩, List.mem_of_getElem? (i := 745) (by decide +kernel), List.mem_of_getElem? (i := 872) (by decide +kernel), List.mem_of_getElem? (i := 873) (by decide +kernel)⟩
theorem lw_p38 : lw_okq (⟨"CutProofsModel", "takeLow", "(II)V"⟩, 25) := ⟨⟨by decide +kernel, by decide +kernel⟩, List.mem_of_getElem? (i := 745) (by decide +kernel), List.mem_of_getElem? (i := 876) (by decide +kernel), List.mem_of_getElem? (i := 877) (by decide +kernel)⟩
theorem lw_p39 : lw_okq (⟨"CutProofsModel", "divide", "(I)V"⟩, 25) := ⟨⟨by decide +kernel, by decide +kernel⟩, List.mem_of_getElem? (i := 745) (by decide +kernel), List.mem_of_getElem? (i := 880) (by decide +kernel), List.mem_of_getElem? (i := 881) (by decide +kernel)⟩
theorem lw_p40 : lw_okq (⟨"CutProofsModel", "offer", "(I)V"⟩, 25) := ⟨⟨by decide +kernel, by decide +kernel⟩, List.mem_of_getElem? (i := 745) (by decide +kernel), List.mem_of_getElem? (i := 885) (by decide +kernel), List.mem_of_getElem? (i := 886) (by decide +kernel)⟩
theorem lw_p41 : lw_okq (⟨"CutProofsModel", "isThere", "()Z"⟩, 25) := ⟨⟨by decide +kernel, by decide +kernel⟩, List.mem_of_getElem? (i := 745) (by decide +kernel), List.mem_of_getElem? (i := 889) (by decide +kernel), List.mem_of_getElem? (i := 890) (by decide +kernel)⟩
theorem lw_p42 : lw_okq (⟨"CutProofsModel", "rounded", "()V"⟩, 25) := ⟨⟨by decide +kernel, by decide +kernel⟩, List.mem_of_getElem? (i := 745) (by decide +kernel), List.mem_of_getElem? (i := 893) (by decide +kernel), List.mem_of_getElem? (i := 894) (by decide +kernel)⟩
theorem lw_p43 : lw_okq (⟨"CutProofsModel", "covers", "()V"⟩, 25) := ⟨⟨by decide +kernel, by decide +kernel⟩, List.mem_of_getElem? (i := 745) (by decide +kernel), List.mem_of_getElem? (i := 900) (by decide +kernel), List.mem_of_getElem? (i := 901) (by decide +kernel)⟩
theorem lw_p44 : lw_okq (⟨"CutProofsModel", "findLiterals", "(I)V"⟩, 25) := ⟨⟨by decide +kernel, by decide +kernel⟩, List.mem_of_getElem? (i := 745) (by decide +kernel), List.mem_of_getElem? (i := 904) (by decide +kernel), List.mem_of_getElem? (i := 905) (by decide +kernel)⟩
theorem lw_p45 : lw_okq (⟨"CutProofsModel", "isBinary", "(I)Z"⟩, 25) := ⟨⟨by decide +kernel, by decide +kernel⟩, List.mem_of_getElem? (i := 745) (by decide +kernel), List.mem_of_getElem? (i := 908) (by decide +kernel), List.mem_of_getElem? (i := 909) (by decide +kernel)⟩
theorem lw_p46 : lw_okq (⟨"CutProofsModel", "least", "(II)I"⟩, 25) := ⟨⟨by decide +kernel, by decide +kernel⟩, List.mem_of_getElem? (i := 745) (by decide +kernel), List.mem_of_getElem? (i := 912) (by decide +kernel), List.mem_of_getElem? (i := 913) (by decide +kernel)⟩
theorem lw_p47 : lw_okq (⟨"CutProofsModel", "isCover", "(I)Z"⟩, 25) := ⟨⟨by decide +kernel, by decide +kernel⟩, List.mem_of_getElem? (i := 745) (by decide +kernel), List.mem_of_getElem? (i := 916) (by decide +kernel), List.mem_of_getElem? (i := 917) (by decide +kernel)⟩
def lw_privs_3 : List (MethodName × Nat) := [(⟨"CutProofsModel", "isRow", "(I)Z"⟩, 25), (⟨"CutProofsModel", "isName", "(I)Z"⟩, 25), (⟨"CutProofsModel", "halves", "()V"⟩, 25), (⟨"CutProofsModel", "emptied", "()V"⟩, 25), (⟨"CutProofsModel", "takeRow", "(I)V"⟩, 25), (⟨"CutProofsModel", "takeHigh", "(II)V"⟩, 25), (⟨"CutProofsModel", "takeLow", "(II)V"⟩, 25), (⟨"CutProofsModel", "divide", "(I)V"⟩, 25), (⟨"CutProofsModel", "offer", "(I)V"⟩, 25), (⟨"CutProofsModel", "isThere", "()Z"⟩, 25), (⟨"CutProofsModel", "rounded", "()V"⟩, 25), (⟨"CutProofsModel", "covers", "()V"⟩, 25), (⟨"CutProofsModel", "findLiterals", "(I)V"⟩, 25), (⟨"CutProofsModel", "isBinary", "(I)Z"⟩, 25), (⟨"CutProofsModel", "least", "(II)I"⟩, 25), (⟨"CutProofsModel", "isCover", "(I)Z"⟩, 25)]
theorem lw_r3 : ∀ q ∈ lw_privs_3, lw_okq q := List.forall_mem_cons.mpr ⟨lw_p32, List.forall_mem_cons.mpr ⟨lw_p33, List.forall_mem_cons.mpr ⟨lw_p34, List.forall_mem_cons.mpr ⟨lw_p35, List.forall_mem_cons.mpr ⟨lw_p36, List.forall_mem_cons.mpr ⟨lw_p37, List.forall_mem_cons.mpr ⟨lw_p38, List.forall_mem_cons.mpr ⟨lw_p39, List.forall_mem_cons.mpr ⟨lw_p40, List.forall_mem_cons.mpr ⟨lw_p41, List.forall_mem_cons.mpr ⟨lw_p42, List.forall_mem_cons.mpr ⟨lw_p43, List.forall_mem_cons.mpr ⟨lw_p44, List.forall_mem_cons.mpr ⟨lw_p45, List.forall_mem_cons.mpr ⟨lw_p46, List.forall_mem_cons.mpr ⟨lw_p47, fun _ h => absurd h List.not_mem_nil⟩⟩⟩⟩⟩⟩⟩⟩⟩⟩⟩⟩⟩⟩⟩⟩
theorem lw_p48 : lw_okq (⟨"CutProofsModel", "weightOf", "(I)I"⟩, 25) := ⟨⟨by decide +kernel, by decide +kernel⟩, List.mem_of_getElem? (i := 745) (by decide +kernel), List.mem_of_getElem? (i := 920) (by decide +kernel), List.mem_of_getElem? (i := 921) (by decide +kernel)⟩
theorem lw_p49 : lw_okq (⟨"CutProofsModel", "cover", "(II)V"⟩, 25) := ⟨⟨by decide +kernel, by decide +kernel⟩, List.mem_of_getElem? (i := 745) (by decide +kernel), List.mem_of_getElem? (i := 924) (by decide +kernel), List.mem_of_getElem? (i := 925) (by decide +kernel)⟩
theorem lw_p50 : lw_okq (⟨"CutProofsModel", "greatest", "(II)I"⟩, 25) := ⟨⟨by decide +kernel, by decide +kernel⟩, List.mem_of_getElem? (i := 745) (by decide +kernel), List.mem_of_getElem? (i := 928) (by decide +kernel), List.mem_of_getElem? (i := 929) (by decide +kernel)⟩
theorem lw_p51 : lw_okq (⟨"CutProofsModel", "cliques", "()V"⟩, 25) := ⟨⟨by decide +kernel, by decide +kernel⟩, List.mem_of_getElem? (i := 745) (by decide +kernel), List.mem_of_getElem? (i := 935) (by decide +kernel), List.mem_of_getElem? (i := 936) (by decide +kernel)⟩
theorem lw_p52 : lw_okq (⟨"CutProofsModel", "isClique", "(I)Z"⟩, 25) := ⟨⟨by decide +kernel, by decide +kernel⟩, List.mem_of_getElem? (i := 745) (by decide +kernel), List.mem_of_getElem? (i := 939) (by decide +kernel), List.mem_of_getElem? (i := 940) (by decide +kernel)⟩
theorem lw_p53 : lw_okq (⟨"CutProofsModel", "clash", "(II)Z"⟩, 25) := ⟨⟨by decide +kernel, by decide +kernel⟩, List.mem_of_getElem? (i := 745) (by decide +kernel), List.mem_of_getElem? (i := 943) (by decide +kernel), List.mem_of_getElem? (i := 944) (by decide +kernel)⟩
theorem lw_p54 : lw_okq (⟨"CutProofsModel", "isCut", "(I)Z"⟩, 25) := ⟨⟨by decide +kernel, by decide +kernel⟩, List.mem_of_getElem? (i := 745) (by decide +kernel), List.mem_of_getElem? (i := 955) (by decide +kernel), List.mem_of_getElem? (i := 956) (by decide +kernel)⟩
theorem lw_p55 : lw_okq (⟨"CutProofsModel", "placeOf", "(III)I"⟩, 25) := ⟨⟨by decide +kernel, by decide +kernel⟩, List.mem_of_getElem? (i := 745) (by decide +kernel), List.mem_of_getElem? (i := 963) (by decide +kernel), List.mem_of_getElem? (i := 964) (by decide +kernel)⟩
theorem lw_p56 : lw_okq (⟨"CutProofsModel", "accepts", "(I)Z"⟩, 25) := ⟨⟨by decide +kernel, by decide +kernel⟩, List.mem_of_getElem? (i := 745) (by decide +kernel), List.mem_of_getElem? (i := 975) (by decide +kernel), List.mem_of_getElem? (i := 976) (by decide +kernel)⟩
theorem lw_p57 : lw_okq (⟨"CutProofsModel", "acceptsSum", "(I)Z"⟩, 25) := ⟨⟨by decide +kernel, by decide +kernel⟩, List.mem_of_getElem? (i := 745) (by decide +kernel), List.mem_of_getElem? (i := 979) (by decide +kernel), List.mem_of_getElem? (i := 980) (by decide +kernel)⟩
theorem lw_p58 : lw_okq (⟨"CutProofsModel", "acceptsCover", "(I)Z"⟩, 25) := ⟨⟨by decide +kernel, by decide +kernel⟩, List.mem_of_getElem? (i := 745) (by decide +kernel), List.mem_of_getElem? (i := 983) (by decide +kernel), List.mem_of_getElem? (i := 984) (by decide +kernel)⟩
theorem lw_p59 : lw_okq (⟨"CutProofsModel", "acceptsClique", "(I)Z"⟩, 25) := ⟨⟨by decide +kernel, by decide +kernel⟩, List.mem_of_getElem? (i := 745) (by decide +kernel), List.mem_of_getElem? (i := 987) (by decide +kernel), List.mem_of_getElem? (i := 988) (by decide +kernel)⟩
theorem lw_p60 : lw_okq (⟨"CutProofsModel", "over", "(I)J"⟩, 25) := ⟨⟨by decide +kernel, by decide +kernel⟩, List.mem_of_getElem? (i := 745) (by decide +kernel), List.mem_of_getElem? (i := 995) (by decide +kernel), List.mem_of_getElem? (i := 996) (by decide +kernel)⟩
theorem lw_p61 : lw_okq (⟨"CutProofsModel", "tooMany", "()Z"⟩, 25) := ⟨⟨by decide +kernel, by decide +kernel⟩, List.mem_of_getElem? (i := 745) (by decide +kernel), List.mem_of_getElem? (i := 1007) (by decide +kernel), List.mem_of_getElem? (i := 1008) (by decide +kernel)⟩
theorem lw_p62 : lw_okq (⟨"CutProofsModel", "count", "(I)I"⟩, 25) := ⟨⟨by decide +kernel, by decide +kernel⟩, List.mem_of_getElem? (i := 745) (by decide +kernel), List.mem_of_getElem? (i := 1012) (by decide +kernel), List.mem_of_getElem? (i := 1013) (by decide +kernel)⟩
theorem lw_p63 : lw_okq (⟨"CutProofsModel", "isPlan", "()Z"⟩, 25) := ⟨⟨by decide +kernel, by decide +kernel⟩, List.mem_of_getElem? (i := 745) (by decide +kernel), List.mem_of_getElem? (i := 1016) (by decide +kernel), List.mem_of_getElem? (i := 1017) (by decide +kernel)⟩
def lw_privs_4 : List (MethodName × Nat) := [(⟨"CutProofsModel", "weightOf", "(I)I"⟩, 25), (⟨"CutProofsModel", "cover", "(II)V"⟩, 25), (⟨"CutProofsModel", "greatest", "(II)I"⟩, 25), (⟨"CutProofsModel", "cliques", "()V"⟩, 25), (⟨"CutProofsModel", "isClique", "(I)Z"⟩, 25), (⟨"CutProofsModel", "clash", "(II)Z"⟩, 25), (⟨"CutProofsModel", "isCut", "(I)Z"⟩, 25), (⟨"CutProofsModel", "placeOf", "(III)I"⟩, 25), (⟨"CutProofsModel", "accepts", "(I)Z"⟩, 25), (⟨"CutProofsModel", "acceptsSum", "(I)Z"⟩, 25), (⟨"CutProofsModel", "acceptsCover", "(I)Z"⟩, 25), (⟨"CutProofsModel", "acceptsClique", "(I)Z"⟩, 25), (⟨"CutProofsModel", "over", "(I)J"⟩, 25), (⟨"CutProofsModel", "tooMany", "()Z"⟩, 25), (⟨"CutProofsModel", "count", "(I)I"⟩, 25), (⟨"CutProofsModel", "isPlan", "()Z"⟩, 25)]
theorem lw_r4 : ∀ q ∈ lw_privs_4, lw_okq q := List.forall_mem_cons.mpr ⟨lw_p48, List.forall_mem_cons.mpr ⟨lw_p49, List.forall_mem_cons.mpr ⟨lw_p50, List.forall_mem_cons.mpr ⟨lw_p51, List.forall_mem_cons.mpr ⟨lw_p52, List.forall_mem_cons.mpr ⟨lw_p53, List.forall_mem_cons.mpr ⟨lw_p54, List.forall_mem_cons.mpr ⟨lw_p55, List.forall_mem_cons.mpr ⟨lw_p56, List.forall_mem_cons.mpr ⟨lw_p57, List.forall_mem_cons.mpr ⟨lw_p58, List.forall_mem_cons.mpr ⟨lw_p59, List.forall_mem_cons.mpr ⟨lw_p60, List.forall_mem_cons.mpr ⟨lw_p61, List.forall_mem_cons.mpr ⟨lw_p62, List.forall_mem_cons.mpr ⟨lw_p63, fun _ h => absurd h List.not_mem_nil⟩⟩⟩⟩⟩⟩⟩⟩⟩⟩⟩⟩⟩⟩⟩⟩
theorem lw_p64 : lw_okq (⟨"CutProofsModel", "goesOn", "()Z"⟩, 25) := ⟨⟨by decide +kernel, by decide +kernel⟩, List.mem_of_getElem? (i := 745) (by decide +kernel), List.mem_of_getElem? (i := 1020) (by decide +kernel), List.mem_of_getElem? (i := 1021) (by decide +kernel)⟩
def lw_privs_5 : List (MethodName × Nat) := [(⟨"CutProofsModel", "goesOn", "()Z"⟩, 25)]
theorem lw_r5 : ∀ q ∈ lw_privs_5, lw_okq q := List.forall_mem_cons.mpr ⟨lw_p64, fun _ h => absurd h List.not_mem_nil⟩
def lw_privs : List (MethodName × Nat) := lw_privs_1 ++ (lw_privs_2 ++ (lw_privs_3 ++ (lw_privs_4 ++ (lw_privs_5))))
def lw_tbl : List Cond := k2_sels lw_privs ++ tables_1
theorem lw_privs_ok : ∀ q ∈ lw_privs, lw_okq q := by
  show ∀ q ∈ lw_privs_1 ++ (lw_privs_2 ++ (lw_privs_3 ++ (lw_privs_4 ++ (lw_privs_5)))), lw_okq q
  exact List.forall_mem_append.mpr ⟨lw_r1, List.forall_mem_append.mpr ⟨lw_r2, List.forall_mem_append.mpr ⟨lw_r3, List.forall_mem_append.mpr ⟨lw_r4, lw_r5⟩⟩⟩⟩
end
section
/-! ===== BEGIN words of one list among another's, by their places ===== -/
theorem goodIn_r {big : List Cond} (ws : List Cond) (ps : List Nat) (hp : ws = ps.filterMap (fun i => big[i]?)) (h : ws.all goodWord = true) : GoodIn big ws := by
  intro w hw
  have h1 := List.all_eq_true.mp h w hw
  rw [hp] at hw
  obtain ⟨i, -, hi⟩ := List.mem_filterMap.mp hw
  have hm : w ∈ big := by first | exact List.mem_of_getElem? hi | exact List.getElem?_mem hi
  exact ⟨hm, good_of_word h1⟩
theorem goodIn_app {big a b : List Cond} (ha : GoodIn big a) (hb : GoodIn big b) : GoodIn big (a ++ b) := fun w h => (List.mem_append.mp h).elim (ha w) (hb w)
theorem goodIn_ca {big a b : List Cond} {c : Cond} (ha : GoodIn big (c :: a)) (hb : GoodIn big b) : GoodIn big (c :: (a ++ b)) := fun w h => (List.mem_cons.mp h).elim (fun e => ha w (List.mem_cons.mpr (Or.inl e))) (fun h => (List.mem_append.mp h).elim (fun h => ha w (List.mem_cons.mpr (Or.inr h))) (hb w))
theorem goodIn_sub {big ws : List Cond} (hm : ∀ w ∈ ws, w ∈ big) (h : ws.all goodWord = true) : GoodIn big ws := fun w hw => ⟨hm w hw, good_of_word (List.all_eq_true.mp h w hw)⟩
/-! ===== END ===== -/

/-! ===== BEGIN new T[n][m]: the outer array a place, the inner ones among the pooled ===== -/
/-- f, but v at every address of l -/
def vr_up {α : Type} (f : Nat → α) (l : List Nat) (v : α) : Nat → α := fun a => if a ∈ l then v else f a
theorem vr_up_in {α : Type} {f : Nat → α} {l : List Nat} {v : α} {a : Nat} (h : a ∈ l) : vr_up f l v a = v := if_pos h
theorem vr_up_ne {α : Type} {f : Nat → α} {l : List Nat} {v : α} {a : Nat} (h : a ∉ l) : vr_up f l v a = f a := if_neg h
theorem vr_rows {L l : List Nat} {f : Nat → va_E} {e : va_E} (h : ∀ a, a ∈ l → a ∉ L) : va_pl L f ++ l.map (fun a => (a, e)) = va_pl (L ++ l) (vr_up f l e) := by
  unfold va_pl
  rw [List.map_append]
  congr 1
  · apply List.map_congr_left
    intro a ha
    rw [vr_up_ne (fun q => h a q ha)]
  · apply List.map_congr_left
    intro a ha
    rw [vr_up_in ha]
theorem vr_lay {X rows : va_W} {x : Nat × va_E} {pl : va_W} {D : va_G} {cl : List vw_C} {H : Heap} (hP : va_P D cl (((X ++ pl) ++ [x]) ++ rows) H) : va_P D cl ((X ++ [x]) ++ (pl ++ rows)) H := by
  rw [List.append_assoc (X ++ pl)] at hP
  have h := va_P.swap hP
  rw [← List.append_assoc X] at h
  have h2 := va_P.swap h
  rw [List.append_assoc (X ++ [x])] at h2
  exact h2
theorem vr_layD {X rows : va_W} {x : Nat × va_E} {pl : va_W} {A : Nat → Prop} (hD : va_D A (((X ++ pl) ++ [x]) ++ rows)) : va_D A ((X ++ [x]) ++ (pl ++ rows)) := by
  rw [List.append_assoc (X ++ pl)] at hD
  have h := va_D.swap hD
  rw [← List.append_assoc X] at h
  have h2 := va_D.swap h
  rw [List.append_assoc (X ++ [x])] at h2
  exact h2
theorem vr_outer (c : ClassId) (N h0 : Nat) : ∀ i : Nat, Jvm.Free.Multi.outerC c N h0 i = arrV c N (fun j => va_rf (if j < i then some (h0 + 1 + j) else none))
  | 0 => by
    show ({ cls := c, slots := Array.replicate N .null, vm := .none } : Cell) = _
    rw [arrV_new]
    refine congrArg (arrV c N) (funext fun j => ?_)
    simp [va_rf]
  | i + 1 => by
    show (Jvm.Free.Multi.outerC c N h0 i).setSlot i (.ref (h0 + 1 + i)) = _
    rw [vr_outer c N h0 i, arrV_store]
    refine congrArg (arrV c N) (funext fun j => ?_)
    by_cases e : j = i
    · subst e
      simp [updV, va_rf]
    · by_cases h : j < i
      · simp [updV, e, h, Nat.lt_succ_of_lt h]
      · simp [updV, e, h, show ¬ j < i + 1 by omega]
def va_AOA (ty : FieldType) (U : State) : Prop := (Cond.arrayOver (.array ty)).before #[] U = true
theorem va_AOA.use {ty : FieldType} {A : Array Value} {U : State} (h : va_AOA ty U) : (Cond.arrayOver (.array ty)).before A U = true := h
section VGM
variable {p : Program} {l : Launch} {e : Env} {R : Room} {s : State} {m : MethodId} {args : Array Value} {below : List Frame} {meth : Method} {c : Code} {H : Heap} {locs : List Loc} {cells slots : Nat} {Q : State → Prop}
variable {cc : ByteArray} {pc : Nat} {ls : Array Slot} {rest : List Value} {D : va_G} {cl : List vw_C} {A : Nat → Prop} {a : Nat} {tys : List (ClassId × FieldType)} {ws : va_W} {H0 : Heap}
theorem va_mna {X : va_W} {L : List Nat} {f : Nat → va_E} {cc : ByteArray} (hexec : p.tables.exec = Jvm.exec) (hb : c.code = cc) {own : String} {index : Nat} {ty : FieldType} {cy : ClassId} (hown : s.vm.findClass own = some m.cls) (hclink : (Cond.classLink own index ("[" ++ (FieldType.array ty).toString)).before args s = true) (hover : va_AOA ty s) (harr : (Cond.arrayClass ty).before args s = true) (hcy : s.vm.findClass (FieldType.array ty).toString = some cy)
    (hK : va_K D cl tys s) (hP : va_P D cl (X ++ va_pl L f) H) (hD : va_D A (X ++ va_pl L f)) (hS : va_S A H0 H locs) (hA : ∀ q, H0.size ≤ q → A q) {n k : Int32} {N' K' : Nat} {z : vp_A} (hn : ¬ n < 0) (hk : ¬ k < 0) (hN : n.toNatClampNeg = N') (hM : k.toNatClampNeg = K')
    (hb1 : N' * 4 ≤ 536870912) (hb2 : K' * componentBytes ty ≤ 536870912) (hb3 : K' ≤ 536870912) (hdf : fits ty (defaultValue ty) = true) (hdd : (defaultValue ty).isDefault = true) (hcells : cells + (1 + N') ≤ R.cells) (hslots : slots + (N' + N' * K') ≤ R.slots) (hz : ∀ c : ClassId, Jvm.Free.Multi.innerC c K' (defaultValue ty) = vp_cell c z) (hdg : decode cc pc = .ok (.multianewarray index 2, 4))
    (kk : ∀ (q : Nat) (r : Nat → Nat) (cA : ClassId) (H1 : Heap), (∀ i j : Nat, i < N' → j < N' → r i = r j → i = j) → (∀ i : Nat, i < N' → r i ∉ L) → va_K D cl (tys ++ [(cA, .array ty)]) s →
      va_P D cl ((X ++ [(q, .inl (cA, N', .inr (.inr (.inr (.inr (fun i => if i < N' then some (r i) else none))))))]) ++ va_pl (L ++ (List.range N').map r) (vr_up f ((List.range N').map r) (.inl (cy, z)))) H1 → va_D A ((X ++ [(q, .inl (cA, N', .inr (.inr (.inr (.inr (fun i => if i < N' then some (r i) else none))))))]) ++ va_pl (L ++ (List.range N').map r) (vr_up f ((List.range N').map r) (.inl (cy, z)))) → va_S A H0 H1 locs →
      W p l e R s m args below meth c H1 locs (cells + 1 + N') (slots + N' + N' * K') Q (F0 m (pc + 4) ls (.ref q :: rest))) : W p l e R s m args below meth c H locs cells slots Q (F0 m pc ls (.int k :: .int n :: rest)) := by
  subst hN
  subst hM
  intro T hT Xs
  obtain ⟨vm₁, cA, comp, -, fA, fC, hO, -, X', step⟩ := Xs.multianewarray2F hexec hown hclink (va_AOA.use hover) harr (g := F0 m pc ls (.int k :: .int n :: rest)) rfl (by rw [hb]; exact hdg) rfl hn hk hb1 hb2 hb3 hdf hdd hcells hslots
  have ec : some cy = some comp := hcy.symm.trans fC
  cases ec
  generalize hF : Jvm.Free.Multi.fill (T.setVm vm₁) cA cy n.toNatClampNeg k.toNatClampNeg (defaultValue ty) n.toNatClampNeg = F at X' step
  have hTh : (T.setVm vm₁).heap = H := hT
  obtain ⟨f1, f2, -, -⟩ := Jvm.Free.Multi.fill_facts (T.setVm vm₁) cA cy n.toNatClampNeg k.toNatClampNeg (defaultValue ty) n.toNatClampNeg
  rw [hF, hTh] at f1 f2
  have hold : ∀ x : Nat, x < H.size → F.heap[x]? = H[x]? := fun x hx => by
    have := Jvm.Free.Multi.fill_old (T.setVm vm₁) cA cy n.toNatClampNeg k.toNatClampNeg (defaultValue ty) (a := x) (by rw [hTh]; exact hx) n.toNatClampNeg
    rw [hF, hTh] at this
    exact this
  have hrow : ∀ j : Nat, j < n.toNatClampNeg → F.heap[H.size + 1 + j]? = some (vp_cell cy z) := fun j hj => by
    have := Jvm.Free.Multi.fill_inner (T.setVm vm₁) cA cy n.toNatClampNeg k.toNatClampNeg (defaultValue ty) n.toNatClampNeg j hj
    rw [hF, hTh, hz] at this
    exact this
  have hout : Jvm.Free.Multi.outerC cA n.toNatClampNeg H.size n.toNatClampNeg = vp_cell cA (n.toNatClampNeg, .inr (.inr (.inr (.inr (fun i => if i < n.toNatClampNeg then some (H.size + 1 + i) else none))))) := by
    rw [vp_cell_q]
    exact vr_outer cA n.toNatClampNeg H.size n.toNatClampNeg
  rw [hout] at f2
  have hlt : ∀ a, a ∈ L → a < H.size := fun a ha => by
    obtain ⟨k9, hk9⟩ := va_pl_get (X := X) (f := f) ha
    exact (hP k9 _ hk9).lt
  have hnl : ∀ i : Nat, i < n.toNatClampNeg → H.size + 1 + i ∉ L := fun i _ h => by
    have := hlt _ h
    omega
  have hnm : ∀ a, a ∈ (List.range n.toNatClampNeg).map (fun i => H.size + 1 + i) → a ∉ L := fun a ha h => by
    obtain ⟨i, -, rfl⟩ := List.mem_map.mp ha
    have := hlt _ h
    omega
  have hP0 : va_P D cl (X ++ va_pl L f) F.heap := hP.kept (fun k9 x hx => hold x.1 ((hP k9 x hx).lt))
  have hP1 : va_P D cl ((X ++ va_pl L f) ++ [(H.size, .inl (cA, n.toNatClampNeg, .inr (.inr (.inr (.inr (fun i => if i < n.toNatClampNeg then some (H.size + 1 + i) else none))))))]) F.heap := hP0.app (fun k9 x hx => by
    have h0 : k9 < 1 := (List.getElem?_eq_some_iff.mp hx).1
    rw [show k9 = 0 by omega] at hx
    cases hx
    exact f2)
  have hP2 : va_P D cl (((X ++ va_pl L f) ++ [(H.size, .inl (cA, n.toNatClampNeg, .inr (.inr (.inr (.inr (fun i => if i < n.toNatClampNeg then some (H.size + 1 + i) else none))))))]) ++ ((List.range n.toNatClampNeg).map (fun i => H.size + 1 + i)).map (fun a => (a, .inl (cy, z)))) F.heap := hP1.app (fun k9 x hx => by
    obtain ⟨a, ha, rfl⟩ := List.mem_map.mp (List.mem_of_getElem? hx)
    obtain ⟨i, hi, rfl⟩ := List.mem_map.mp ha
    exact hrow i (List.mem_range.mp hi))
  have hD2 : va_D A (((X ++ va_pl L f) ++ [(H.size, .inl (cA, n.toNatClampNeg, .inr (.inr (.inr (.inr (fun i => if i < n.toNatClampNeg then some (H.size + 1 + i) else none))))))]) ++ ((List.range n.toNatClampNeg).map (fun i => H.size + 1 + i)).map (fun a => (a, .inl (cy, z)))) := by
    have hD1 := hD.push (e := .inl (cA, n.toNatClampNeg, .inr (.inr (.inr (.inr (fun i => if i < n.toNatClampNeg then some (H.size + 1 + i) else none)))))) hP rfl (hA _ hS.1)
    generalize hW1 : (X ++ va_pl L f) ++ [(H.size, .inl (cA, n.toNatClampNeg, .inr (.inr (.inr (.inr (fun i => if i < n.toNatClampNeg then some (H.size + 1 + i) else none))))))] = W1 at hD1 hP1 ⊢
    have hle : ∀ (k9 : Nat) (x : Nat × va_E), W1[k9]? = some x → x.1 ≤ H.size := fun k9 x hx => by
      rw [← hW1] at hx
      by_cases hl : k9 < (X ++ va_pl L f).length
      · rw [List.getElem?_append_left hl] at hx
        exact Nat.le_of_lt ((hP k9 x hx).lt)
      · rw [List.getElem?_append_right (by omega)] at hx
        have h0 : k9 - (X ++ va_pl L f).length < 1 := (List.getElem?_eq_some_iff.mp hx).1
        rw [show k9 - (X ++ va_pl L f).length = 0 by omega] at hx
        cases hx
        exact Nat.le_refl _
    have hr : ∀ (k9 : Nat) (x : Nat × va_E), (((List.range n.toNatClampNeg).map (fun i => H.size + 1 + i)).map (fun a => ((a, .inl (cy, z)) : Nat × va_E)))[k9]? = some x → x.1 = H.size + 1 + k9 := fun k9 x hx => by
      rw [List.getElem?_map, List.getElem?_map] at hx
      by_cases h9 : k9 < n.toNatClampNeg
      · rw [List.getElem?_range h9] at hx
        cases hx
        rfl
      · have hn0 : (List.range n.toNatClampNeg)[k9]? = none := List.getElem?_eq_none (by rw [List.length_range]; omega)
        rw [hn0] at hx
        cases hx
    refine ⟨fun i j x y hi hj hxy => ?_, fun k9 x hx => ?_⟩
    · by_cases h1 : i < W1.length <;> by_cases h2 : j < W1.length
      · rw [List.getElem?_append_left h1] at hi
        rw [List.getElem?_append_left h2] at hj
        exact hD1.1 i j x y hi hj hxy
      · rw [List.getElem?_append_left h1] at hi
        rw [List.getElem?_append_right (by omega)] at hj
        have := hle _ _ hi
        have := hr _ _ hj
        omega
      · rw [List.getElem?_append_right (by omega)] at hi
        rw [List.getElem?_append_left h2] at hj
        have := hle _ _ hj
        have := hr _ _ hi
        omega
      · rw [List.getElem?_append_right (by omega)] at hi hj
        have := hr _ _ hi
        have := hr _ _ hj
        omega
    · by_cases h1 : k9 < W1.length
      · rw [List.getElem?_append_left h1] at hx
        exact hD1.2 k9 x hx
      · rw [List.getElem?_append_right (by omega)] at hx
        have := hr _ _ hx
        exact hA _ (by have := hS.1; omega)
  have hAr : ArrOfT s cA (.array ty) := fun N9 z9 => by
    obtain ⟨-, k9, hk9, cm9, hkk9⟩ := (hO 0 0 0).1
    exact ⟨(fun q hq => by cases hq), k9, hk9, cm9, hkk9⟩
  have hK2 : va_K D cl (tys ++ [(cA, .array ty)]) s := ⟨hK.1, fun k9 x hx => by
    by_cases hl : k9 < tys.length
    · rw [List.getElem?_append_left hl] at hx
      exact hK.2 k9 x hx
    · rw [List.getElem?_append_right (by omega)] at hx
      have h0 : k9 - tys.length < 1 := (List.getElem?_eq_some_iff.mp hx).1
      rw [show k9 - tys.length = 0 by omega] at hx
      cases hx
      exact ⟨hAr, fA⟩⟩
  obtain ⟨t, a1, b1⟩ := kk H.size (fun i => H.size + 1 + i) cA F.heap (fun i j _ _ h => by have h9 : H.size + 1 + i = H.size + 1 + j := h; omega) hnl hK2 (by rw [← vr_rows hnm]; exact vr_lay hP2) (by rw [← vr_rows hnm]; exact vr_layD hD2) ⟨by rw [f1]; have := hS.1; omega, fun x h1 h2 => (hold x (Nat.lt_of_lt_of_le h1 hS.1)).trans (hS.2.1 x h1 h2), hS.2.2⟩ F rfl X'
  refine ⟨t, step t ?_, b1⟩
  have e : T.heap.size = H.size := by rw [hT]
  rw [e]
  exact a1
end VGM
/-! ===== END ===== -/

/-! ===== BEGIN exceptions that leave a method, and their catching by the caller (launches without stack traces) ===== -/
section VXA
/-! The laws vx_back, vx_callV, vx_callS, vx_callSW, vx_throw0, vx_throwS follow proofs of the library, with one case more: JvmDerived/Free/Laws.lean (Back.of_free), Shelf42/LK1.lean (callV, callS), Shelf/KitTraced.lean (throwNew0V, throwNewS). -/
/-- where a method has thrown q: the class by its name, the cell, what was written, the world -/
def vx_T (XC : String → State → State → Prop) (st : State) (q : Addr) (t : State) (mc ms : Nat) (free : Addr → Prop) : Prop :=
  ∃ (E : String) (ce : Cell) (L : List Loc), XC E st t ∧ t.heap[q]? = some ce ∧ ce.vm = .none ∧ st.vm.findClass E = some ce.cls ∧ st.WarmedH t.vm ∧ st.sameButNew ({ t with vm := st.vm } : State) L mc ms ∧ ∀ z ∈ L, free z.base
def vx_Q (Qc : Array Value → State → Outcome → State → Prop) (XC : String → State → State → Prop) (mc ms : Nat) (free : Addr → Prop) : Array Value → State → Outcome → State → Prop := fun a st o t =>
  (Qc a st o t ∧ ∃ L, FrameEnd st o t L mc ms ∧ ∀ q ∈ L, free q.base) ∨ ∃ q, o = .threw q ∧ vx_T XC st q t mc ms free
/-- a callee that returns or throws -/
def vx_Met (l : Launch) (y : MethodName) (ws : List Cond) (rm : Room) (Pc : Array Value → State → Prop) (Qc : Array Value → State → Outcome → State → Prop) (XC : String → State → State → Prop) (mc ms : Nat) (free : Addr → Prop) : Prop :=
  MetFree l y (headSpec ws rm) Pc (fun _ _ _ _ _ => True) (vx_Q Qc XC mc ms free)
def vx_Post (XC : String → State → State → Prop) (mc ms : Nat) (free : Addr → Prop) : Pt → Array Value → Addr → Pt → Prop := fun A a q B =>
  ∃ (g : JFrame) (mk : MethodId) (t : State) (L : List Loc) (E : String) (ce : Cell), B.U.heap = t.heap ∧ B.U.vm = t.vm ∧ XC E (A.U.calling g mk a) t ∧ t.heap[q]? = some ce ∧ ce.vm = .none ∧ A.U.vm.findClass E = some ce.cls ∧ B.locs = A.locs ++ L ∧ (∀ z ∈ L, free z.base) ∧ B.cells = A.cells + mc ∧ B.slots = A.slots + ms
def vx_Back (l : Launch) (R : Room) (p : Program) (e : Env) (below : List Frame) (s : State) (sargs : Array Value) (y : MethodName) (len W9 : Nat)
    (Pre : Pt → Array Value → Prop) (Post : Pt → Array Value → Option Value → Pt → Prop) (PostX : Pt → Array Value → Addr → Pt → Prop) : Prop :=
  ∀ (m : MethodId) (meth : Method) (c : Code) (A : Pt) (g : JFrame) (ig : Instr) (mk : MethodId) (a : Array Value),
    Stand p l e R s m sargs below meth c A.U A.locs A.cells A.slots → g.method = m → g.locals.size = c.maxLocals → decode c.code g.pc = .ok (ig, len) →
    2 * g.monitorRoom + (g.stack.map fun v => v.category).sum ≤ W9 → A.U.methodNamed? y = some mk → Pre A a →
    (∃ (v : Option Value) (B : Pt), Stand p l e R s m sargs below meth c B.U B.locs B.cells B.slots ∧ Post A a v B ∧
      Steps p.tables e below (doInvoke e (A.U.setTop g) [] mk a).1 (B.U.setTop { g with pc := g.pc + len, stack := v.toList ++ g.stack })) ∨
    (∃ (q : Addr) (B : Pt), Stand p l e R s m sargs below meth c B.U B.locs B.cells B.slots ∧ PostX A a q B ∧
      Steps p.tables e below (doInvoke e (A.U.setTop g) [] mk a).1 ((B.U.setTop g).pushFrame (.throwing q)))
section Payer
variable {l : Launch} {R : Room} {p : Program} {e : Env} {below : List Frame} {s : State} {sargs : Array Value} {y : MethodName} {len W9 : Nat}
theorem vx_back {ws : List Cond} {rm : Room} {Pc : Array Value → State → Prop} {Qc : Array Value → State → Outcome → State → Prop} {XC : String → State → State → Prop} {mc ms : Nat} {free : Addr → Prop} {bytes : ByteArray} {maxL : Nat} {ret : Option FieldType}
    (hM : vx_Met l y ws rm Pc Qc XC mc ms free) (hblind : FrameBlind Pc) (hrc : rm.cells = mc) (hrs : rm.slots = ms)
    (hframes : rm.frames + 1 ≤ R.frames) (hlocals : W9 + (maxL + 11) + rm.locals ≤ R.locals)
    (hws : ∀ w ∈ ws, ∀ a' U, s.WarmedH U.vm → w.before a' U = true) (hcode : Cond.code y bytes maxL ret ∈ ws) (hinit : ∀ a' U, s.WarmedH U.vm → (Cond.initialized y.cls).before a' U = true) :
    vx_Back l R p e below s sargs y len W9 (PreOf R mc ms Pc) (PostOf Qc mc ms free) (vx_Post XC mc ms free) := by
  intro m meth c A g ig mk a X hg hsize hdg hW hn hp
  have h1 : (headSpec ws rm).pre.before a A.U = true := atoms_intro fun w hw => hws w hw _ _ X.warmed
  have h2 : (Cond.code y bytes maxL ret).before a A.U = true := hws _ hcode _ _ X.warmed
  have h3 : (Cond.initialized y.cls).before a A.U = true := hinit _ _ X.warmed
  have h4 : A.cells + (headSpec ws rm).room.cells ≤ R.cells := by rw [show (headSpec ws rm).room.cells = mc from hrc]; exact hp.1
  have h5 : A.slots + (headSpec ws rm).room.slots ≤ R.slots := by rw [show (headSpec ws rm).room.slots = ms from hrs]; exact hp.2.1
  have hPc : Pc a (A.U.calling g mk a) := hblind _ _ _ _ hp.2.2
  obtain ⟨U, Ls, c0, s0⟩ := A
  dsimp only [Pt.U, Pt.locs, Pt.cells, Pt.slots] at h1 h2 h3 h4 h5 X hn hPc ⊢
  obtain ⟨methY, cY, hmY, hcY, -, hlY, -, -, -, -⟩ := Cond.code_spec hn h2
  obtain ⟨kY, hkY, -⟩ := className_of_methodNamed hn
  have hinitY : kY.init = .initialized := Cond.initialized_spec (findClass_of_methodNamed hn) hkY h3
  have h : At U g.method c below := by rw [hg]; exact X.here
  have hlocals9 : W9 + (maxL + 11) + (headSpec ws rm).room.locals ≤ R.locals := hlocals
  have happ : (headSpec ws rm).appliesLoose y e.platform (U.calling g mk a) = true :=
    Spec.appliesLoose_calling (g := g) h hdg hn hkY hinitY
      (X.room_calling (g := g) (R' := (headSpec ws rm).room) hsize hmY hcY hframes (by rw [hlY]; omega) h4 h5) h1
  obtain ⟨mid, hmid⟩ := h.above
  have hfr : (U.setTop g).frames = (.java g :: mid) ++ below := by rw [State.frames_setTop' g h.top, hmid]; rfl
  obtain ⟨o, s₂, hsteps, -, hend, hq⟩ := Steps.callFree hM p X.admits X.cas X.clock (acts := []) hfr happ hPc trivial
  have hq' : vx_Q Qc XC mc ms free a (U.calling g mk a) o s₂ := hq
  rw [State.frames_setTop' g h.top] at hend
  obtain ⟨g₀, hg0⟩ := Option.isSome_iff_exists.mp h.top
  obtain ⟨r, hr⟩ := State.topJava?_eq_some.mp hg0
  have hr' : (({ U with heap := s₂.heap, slotsUsed := s₂.slotsUsed } : State).setVm s₂.vm).frames = .java g₀ :: r := hr
  rcases hq' with ⟨hqc, L, hfe, hL⟩ | ⟨q, rfl, E, ce, L, hx, hce, hcv, hcl, hW₂, hsm, hL⟩
  · obtain ⟨⟨v, rfl⟩, hW₂, e2, q2, q3, q4, q5, q6⟩ := id hfe
    have e3 : s₂ = ({ (U.calling g mk a).setFrames s₂.frames with heap := s₂.heap, slotsUsed := s₂.slotsUsed } : State).setVm s₂.vm := by
      have : s₂ = ({ s₂ with vm := (U.calling g mk a).vm } : State).setVm s₂.vm := rfl
      rw [e2] at this
      exact this
    obtain ⟨c₂, i₂, len₂, hc₂, hd₂, hf₂⟩ := hend
    have hW' : U.WarmedH s₂.vm := hW₂
    have hcc : c₂ = c := by
      have h1 : s₂.code? g.method = U.code? g.method := by
        rw [State.code?_eq, State.code?_eq, hW'.alike.method?]
      exact Option.some.inj (hc₂.symm.trans (h1.trans h.code))
    subst hcc
    have hlen : len₂ = len := by rw [hdg] at hd₂; cases hd₂; rfl
    subst hlen
    have hs₂ : s₂ = (({ U with heap := s₂.heap, slotsUsed := s₂.slotsUsed } : State).setVm s₂.vm).setTop { g with pc := g.pc + len₂, stack := v.toList ++ g.stack } := by
      refine e3.trans ?_
      rw [hf₂, State.calling_eq h.top, State.setFrames_setFrames, State.setTop_of_frames _ hr', hr]
      rfl
    have hsame : U.sameButNew ({ U with heap := s₂.heap, slotsUsed := s₂.slotsUsed } : State) L mc ms := by
      refine ⟨?_, q2, q3, q4, q5, q6⟩
      obtain ⟨t, ht, -⟩ := State.frames_cons hr
      show ({ U with heap := s₂.heap, slotsUsed := s₂.slotsUsed } : State) = { U.setFrames U.frames with heap := s₂.heap, slotsUsed := s₂.slotsUsed }
      rw [State.setFrames_self ht]
    subst hg
    refine Or.inl ⟨v, ⟨(({ U with heap := s₂.heap, slotsUsed := s₂.slotsUsed } : State).setVm s₂.vm), Ls ++ L, c0 + mc, s0 + ms⟩,
      ⟨X.admits, X.cas, X.clock, X.frames, X.room, X.hears, X.method, X.code, (X.here.setHeapUsed s₂.heap s₂.slotsUsed).setVm hW'.alike, X.tail, State.WarmedH.trans X.warmed hW', X.limits, X.bytes, X.same.trans (hsame.setVm s.vm)⟩,
      ⟨g, mk, s₂, L, rfl, rfl, hqc, rfl, hL, rfl, rfl⟩, ?_⟩
    show Steps p.tables e below _ ((({ U with heap := s₂.heap, slotsUsed := s₂.slotsUsed } : State).setVm s₂.vm).setTop { g with pc := g.pc + len₂, stack := v.toList ++ g.stack })
    rw [← hs₂]
    exact hsteps
  · obtain ⟨e2, q2, q3, q4, q5, q6⟩ := id hsm
    have e3 : s₂ = ({ (U.calling g mk a).setFrames s₂.frames with heap := s₂.heap, slotsUsed := s₂.slotsUsed } : State).setVm s₂.vm := by
      have : s₂ = ({ s₂ with vm := (U.calling g mk a).vm } : State).setVm s₂.vm := rfl
      rw [e2] at this
      exact this
    have hf₂ : s₂.frames = .throwing q :: .java g :: U.frames.tail := hend
    have hW' : U.WarmedH s₂.vm := hW₂
    have hs₂ : s₂ = ((({ U with heap := s₂.heap, slotsUsed := s₂.slotsUsed } : State).setVm s₂.vm).setTop g).pushFrame (.throwing q) := by
      refine e3.trans ?_
      rw [hf₂, State.calling_eq h.top, State.setFrames_setFrames, State.pushFrame, State.frames_setTop _ hr', State.setTop_of_frames _ hr', State.setFrames_setFrames, hr]
      rfl
    have hsame : U.sameButNew ({ U with heap := s₂.heap, slotsUsed := s₂.slotsUsed } : State) L mc ms := by
      refine ⟨?_, q2, q3, q4, q5, q6⟩
      obtain ⟨t, ht, -⟩ := State.frames_cons hr
      show ({ U with heap := s₂.heap, slotsUsed := s₂.slotsUsed } : State) = { U.setFrames U.frames with heap := s₂.heap, slotsUsed := s₂.slotsUsed }
      rw [State.setFrames_self ht]
    subst hg
    refine Or.inr ⟨q, ⟨(({ U with heap := s₂.heap, slotsUsed := s₂.slotsUsed } : State).setVm s₂.vm), Ls ++ L, c0 + mc, s0 + ms⟩,
      ⟨X.admits, X.cas, X.clock, X.frames, X.room, X.hears, X.method, X.code, (X.here.setHeapUsed s₂.heap s₂.slotsUsed).setVm hW'.alike, X.tail, State.WarmedH.trans X.warmed hW', X.limits, X.bytes, X.same.trans (hsame.setVm s.vm)⟩,
      ⟨g, mk, s₂, L, E, ce, rfl, rfl, hx, hce, hcv, hcl, rfl, hL, rfl, rfl⟩, ?_⟩
    show Steps p.tables e below _ (((({ U with heap := s₂.heap, slotsUsed := s₂.slotsUsed } : State).setVm s₂.vm).setTop g).pushFrame (.throwing q))
    rw [← hs₂]
    exact hsteps
end Payer
section Calls
variable {p : Program} {l : Launch} {e : Env} {R : Room} {s : State} {m : MethodId} {args : Array Value} {below : List Frame} {meth : Method} {c : Code} {T : State} {locs : List Loc} {cells slots : Nat}
theorem vx_callV (X : Stand p l e R s m args below meth c T locs cells slots) (hexec : p.tables.exec = Jvm.exec) {own C : String} {index : Nat} {y : MethodName} {bytes : ByteArray} {maxL : Nat} {ret : Option FieldType}
    (hown : s.vm.findClass own = some m.cls) (hlink : (Cond.methodLink own index y).before args s = true) (hinst : (Cond.instanceMethod y).before args s = true) (hsel : (Cond.selects C y y).before args s = true)
    (hcode : (Cond.code y bytes maxL ret).before args s = true) (hy : y.cls ≠ "java/lang/invoke/MethodHandle" ∧ y.cls ≠ "java/lang/invoke/VarHandle")
    {W9 : Nat} {Pre : Pt → Array Value → Prop} {Post : Pt → Array Value → Option Value → Pt → Prop} {PostX : Pt → Array Value → Addr → Pt → Prop} (hK : vx_Back l R p e below s args y 3 W9 Pre Post PostX)
    {b : Addr} {cellB : Cell} (hcell : T.heap[b]? = some cellB) (hobj : cellB.vm.isStatics = false) (hcls : s.vm.findClass C = some cellB.cls)
    {g : JFrame} (hg : g.method = m) (hsize : g.locals.size = c.maxLocals) {argsL rest : List Value} (hlen : ∀ sig, parseMethodDescriptor y.desc = some sig → argsL.length = sig.parameters.length)
    (hstack : g.stack = argsL.reverse ++ .ref b :: rest) (hW : 2 * g.monitorRoom + (rest.map fun v => v.category).sum ≤ W9) (hdg : decode c.code g.pc = .ok (.invokevirtual index, 3))
    (hpre : ∀ vm₁, s.WarmedH vm₁ → Pre ⟨T.setVm vm₁, locs, cells, slots⟩ (Value.ref b :: argsL).toArray) :
    (∃ (v : Option Value) (vm₁ : Vm) (B : Pt), s.WarmedH vm₁ ∧ Stand p l e R s m args below meth c B.U B.locs B.cells B.slots ∧ Post ⟨T.setVm vm₁, locs, cells, slots⟩ (Value.ref b :: argsL).toArray v B ∧
      ∀ target, Steps p.tables e below (B.U.setTop { g with pc := g.pc + 3, stack := v.toList ++ rest }) target → Steps p.tables e below (T.setTop g) target) ∨
    (∃ (q : Addr) (vm₁ : Vm) (B : Pt), s.WarmedH vm₁ ∧ Stand p l e R s m args below meth c B.U B.locs B.cells B.slots ∧ PostX ⟨T.setVm vm₁, locs, cells, slots⟩ (Value.ref b :: argsL).toArray q B ∧
      Steps p.tables e below (T.setTop g) ((B.U.setTop { g with stack := rest }).pushFrame (.throwing q))) := by
  obtain ⟨mk, methM, hnamed, hmethM, hstM, habM⟩ := Cond.instanceMethod_spec hinst
  obtain ⟨methM', cM, hmethM', -, -, -, -, -, -, hsigM⟩ := Cond.code_spec hnamed hcode
  cases hmethM.symm.trans hmethM'
  obtain ⟨c2, r2, m2, q1, q2, q3, q4, kP, hkP, hkPi⟩ := Cond.selects_spec hsel
  cases hcls.symm.trans q1
  cases (State.methodFound?_of_named hnamed hy).symm.trans q2
  cases hnamed.symm.trans q3
  have hselP : selectMethod e.platform s.vm cellB.cls mk = .method mk := by rw [Launch.admits_selectMethod X.admits]; exact q4
  obtain ⟨vm₁, X₁, hstep₁⟩ := X.invokevirtual hexec hown hlink hnamed hmethM hstM hkP hkPi hy (a := b) (cell := cellB) hcell
    (fun z h => by rw [h] at hobj; cases hobj) hselP hmethM habM hkP hkPi (g := g) hg (argsL := argsL) (rest := rest) (hlen _ hsigM) hstack hdg
  rcases hK m meth c ⟨T.setVm vm₁, locs, cells, slots⟩ { g with stack := rest } (.invokevirtual index) mk (Value.ref b :: argsL).toArray X₁ hg hsize hdg hW (X₁.named hnamed) (hpre vm₁ X₁.warmed) with ⟨v, B, X', hpost, hsteps⟩ | ⟨q, B, X', hpost, hsteps⟩
  · exact Or.inl ⟨v, vm₁, B, X₁.warmed, X', hpost, fun target h => hstep₁ _ fun acts => by rw [doInvoke_state]; exact hsteps.trans h⟩
  · exact Or.inr ⟨q, vm₁, B, X₁.warmed, X', hpost, hstep₁ _ fun acts => by rw [doInvoke_state]; exact hsteps⟩
theorem vx_callS (X : Stand p l e R s m args below meth c T locs cells slots) (hexec : p.tables.exec = Jvm.exec) {own : String} {index : Nat} {y : MethodName} {bytes : ByteArray} {maxL : Nat} {ret : Option FieldType}
    (hown : s.vm.findClass own = some m.cls) (hlink : (Cond.methodLink own index y).before args s = true) (hstat : (Cond.static y).before args s = true) (hinit : (Cond.initialized y.cls).before args s = true)
    (hcode : (Cond.code y bytes maxL ret).before args s = true) (hy : y.cls ≠ "java/lang/invoke/MethodHandle" ∧ y.cls ≠ "java/lang/invoke/VarHandle")
    {W9 : Nat} {Pre : Pt → Array Value → Prop} {Post : Pt → Array Value → Option Value → Pt → Prop} {PostX : Pt → Array Value → Addr → Pt → Prop} (hK : vx_Back l R p e below s args y 3 W9 Pre Post PostX)
    {g : JFrame} (hg : g.method = m) (hsize : g.locals.size = c.maxLocals) {argsL rest : List Value} (hlen : ∀ sig, parseMethodDescriptor y.desc = some sig → argsL.length = sig.parameters.length)
    (hstack : g.stack = argsL.reverse ++ rest) (hW : 2 * g.monitorRoom + (rest.map fun v => v.category).sum ≤ W9) (hdg : decode c.code g.pc = .ok (.invokestatic index, 3))
    (hpre : ∀ vm₁, s.WarmedH vm₁ → Pre ⟨T.setVm vm₁, locs, cells, slots⟩ argsL.toArray) :
    (∃ (v : Option Value) (vm₁ : Vm) (B : Pt), s.WarmedH vm₁ ∧ Stand p l e R s m args below meth c B.U B.locs B.cells B.slots ∧ Post ⟨T.setVm vm₁, locs, cells, slots⟩ argsL.toArray v B ∧
      ∀ target, Steps p.tables e below (B.U.setTop { g with pc := g.pc + 3, stack := v.toList ++ rest }) target → Steps p.tables e below (T.setTop g) target) ∨
    (∃ (q : Addr) (vm₁ : Vm) (B : Pt), s.WarmedH vm₁ ∧ Stand p l e R s m args below meth c B.U B.locs B.cells B.slots ∧ PostX ⟨T.setVm vm₁, locs, cells, slots⟩ argsL.toArray q B ∧
      Steps p.tables e below (T.setTop g) ((B.U.setTop { g with stack := rest }).pushFrame (.throwing q))) := by
  obtain ⟨mk, hnamed⟩ := Cond.code_named hcode
  obtain ⟨methM, cM, hmethM, -, -, -, -, -, -, hsigM⟩ := Cond.code_spec hnamed hcode
  have hstatic : methM.isStatic = true := Cond.static_spec hnamed hmethM hstat
  obtain ⟨kP, hkP, -⟩ := className_of_methodNamed hnamed
  have hinitP : kP.init = .initialized := Cond.initialized_spec (findClass_of_methodNamed hnamed) hkP hinit
  obtain ⟨vm₁, X₁, hstep₁⟩ := X.invokestatic hexec hown hlink hnamed hmethM hstatic hkP hinitP hy (g := g) hg (argsL := argsL) (rest := rest) (hlen _ hsigM) hstack hdg
  rcases hK m meth c ⟨T.setVm vm₁, locs, cells, slots⟩ { g with stack := rest } (.invokestatic index) mk argsL.toArray X₁ hg hsize hdg hW (X₁.named hnamed) (hpre vm₁ X₁.warmed) with ⟨v, B, X', hpost, hsteps⟩ | ⟨q, B, X', hpost, hsteps⟩
  · exact Or.inl ⟨v, vm₁, B, X₁.warmed, X', hpost, fun target h => hstep₁ _ fun acts => by rw [doInvoke_state]; exact hsteps.trans h⟩
  · exact Or.inr ⟨q, vm₁, B, X₁.warmed, X', hpost, hstep₁ _ fun acts => by rw [doInvoke_state]; exact hsteps⟩
end Calls
theorem vx_cls {s : State} {T : State} {vm₁ : Vm} {E : String} {k : ClassId} (hW : s.WarmedH vm₁) (h : (T.setVm vm₁).vm.findClass E = some k) : s.vm.findClass E = some k := by
  have h1 : vm₁.findClass E = some k := h
  rw [hW.alike.findClass] at h1
  exact h1
/-- the method's frame g, with q thrown over it -/
def vx_W (p : Program) (l : Launch) (e : Env) (R : Room) (s : State) (m : MethodId) (args : Array Value) (below : List Frame) (meth : Method) (c : Code) (H : Heap) (locs : List Loc) (cells slots : Nat) (Q : State → Prop) (g : JFrame) (q : Addr) : Prop :=
  ∀ T : State, T.heap = H → Stand p l e R s m args below meth c T locs cells slots → ∃ t, Steps p.tables e below ((T.setTop g).pushFrame (.throwing q)) t ∧ Q t
def vx_Run (p : Program) (l : Launch) (e : Env) (R : Room) (s : State) (m : MethodId) (args : Array Value) (below : List Frame) (meth : Method) (c : Code) (H : Heap) (locs : List Loc) (cells slots mc ms : Nat) (g : JFrame) (rest : List Value) (Qa : State → Outcome → State → Prop) (XC : String → State → State → Prop) (free : Addr → Prop) : Prop :=
  ∀ T : State, T.heap = H → Stand p l e R s m args below meth c T locs cells slots →
    (∃ (v : Option Value) (st₀ t T' : State) (L : List Loc), st₀.heap = H ∧ Stand p l e R s m args below meth c T' (locs ++ L) (cells + mc) (slots + ms) ∧ (∀ q ∈ L, free q.base) ∧ T'.heap = t.heap ∧ T'.vm = t.vm ∧ Qa st₀ (.returned v) t ∧
      Goes p e below T g T' { g with pc := g.pc + 3, stack := v.toList ++ rest }) ∨
    (∃ (q : Addr) (st₀ t T' : State) (L : List Loc) (E : String) (ce : Cell), st₀.heap = H ∧ Stand p l e R s m args below meth c T' (locs ++ L) (cells + mc) (slots + ms) ∧ (∀ z ∈ L, free z.base) ∧ T'.heap = t.heap ∧ T'.vm = t.vm ∧ XC E st₀ t ∧ t.heap[q]? = some ce ∧ ce.vm = .none ∧ s.vm.findClass E = some ce.cls ∧
      Steps p.tables e below (T.setTop g) ((T'.setTop { g with stack := rest }).pushFrame (.throwing q)))
def vx_X {S : Type} (px : S → Prop) (B : String → S → State → Prop) (A : Nat → Prop) : String → State → State → Prop := fun E st t => ∃ u : S, px u ∧ B E u t ∧ va_F A st t
section Runs
variable {p : Program} {l : Launch} {e : Env} {R : Room} {s : State} {m : MethodId} {args : Array Value} {below : List Frame} {meth : Method} {c : Code} {H : Heap} {locs : List Loc} {cells slots : Nat}
variable {y : MethodName} {bytes cc : ByteArray} {maxL nL mc ms n index : Nat} {ret : Option FieldType} {ws : List Cond} {rm : Room} {Pc : Array Value → State → Prop} {Qc : Array Value → State → Outcome → State → Prop} {XC : String → State → State → Prop} {free : Addr → Prop} {Ts : List Cond} {own C : String} {b : Addr} {As rest : List Value} {g : JFrame}
theorem vx_callBack (cb : CallB R s args own index y bytes maxL ret ws rm mc ms n) (hM : vx_Met l y ws rm Pc Qc XC mc ms free) (hbl : FrameBlind Pc) : vx_Back l R p e below s args y 3 8 (PreOf R mc ms Pc) (PostOf Qc mc ms free) (vx_Post XC mc ms free) := by
  obtain ⟨hrc, hrs, hfr, hlo, hws, hcw, -, hini, -⟩ := cb
  exact vx_back (bytes := bytes) (maxL := maxL) (ret := ret) hM hbl hrc hrs hfr hlo hws hcw (fun a' U hW => word_at hW (Or.inl (by first | rfl | simp [Cond.onTables, Cond.keeps, Cond.steady])) hini)
theorem vx_runV (S : CallFix p m c cc nL s args Ts own) (hM : vx_Met l y ws rm Pc Qc XC mc ms free) (cw : CallW R s args own C index y bytes maxL ret ws rm mc ms n) (hp : PreV s H C b Pc As)
    (hg : g.method = m) (hn : As.length = n) (hsize : g.locals.size = nL) (hstack : g.stack = As.reverse ++ .ref b :: rest) (hW : 2 * g.monitorRoom + (rest.map fun v => v.category).sum ≤ 8) (hdg : decode cc g.pc = .ok (.invokevirtual index, 3)) (hf : cells + mc ≤ R.cells ∧ slots + ms ≤ R.slots) :
    vx_Run p l e R s m args below meth c H locs cells slots mc ms g rest (Qc (Value.ref b :: As).toArray) XC free := by
  have hK : vx_Back l R p e below s args y 3 8 (PreOf R mc ms Pc) (PostOf Qc mc ms free) (vx_Post XC mc ms free) := vx_callBack cw.1 hM hp.1
  obtain ⟨⟨-, -, -, -, -, -, hcode, -, hy, hlen, hl⟩, hin, hse⟩ := cw
  obtain ⟨hx, hb, hml, ho, -⟩ := S
  obtain ⟨-, ⟨cellB, hcB, hoB, hclB⟩, hPc⟩ := hp
  intro T hT X
  rcases vx_callV X hx (C := C) (bytes := bytes) (maxL := maxL) (ret := ret) ho hl hin hse hcode hy hK (by rw [hT]; exact hcB) hoB hclB hg (hsize.trans hml.symm) (argsL := As) (rest := rest) (fun sig h => hn.trans (hlen sig h)) hstack hW (by rw [hb]; exact hdg)
    (fun vm₁ hW₁ => ⟨hf.1, hf.2, hPc (T.setVm vm₁) hT hW₁⟩) with ⟨v, vm₁, ⟨U', l2, c2, s2⟩, hW₁, X', ⟨g', mk, t, L, e1, e2, hq, h1, hL, h2, h3⟩, st⟩ | ⟨q, vm₁, ⟨U', l2, c2, s2⟩, hW₁, X', ⟨g', mk, t, L, E, ce, e1, e2, hq, hce, hcv, hcl, h1, hL, h2, h3⟩, st⟩
  · dsimp only [Pt.U, Pt.locs, Pt.cells, Pt.slots] at X' e1 e2 h1 h2 h3 st
    subst h1; subst h2; subst h3
    exact Or.inl ⟨v, (T.setVm vm₁).calling g' mk (Value.ref b :: As).toArray, t, U', L, hT, X', hL, e1, e2, hq, st⟩
  · dsimp only [Pt.U, Pt.locs, Pt.cells, Pt.slots] at X' e1 e2 h1 h2 h3 st hcl
    subst h1; subst h2; subst h3
    exact Or.inr ⟨q, (T.setVm vm₁).calling g' mk (Value.ref b :: As).toArray, t, U', L, E, ce, hT, X', hL, e1, e2, hq, hce, hcv, vx_cls hW₁ hcl, st⟩
theorem vx_runS (S : CallFix p m c cc nL s args Ts own) (hM : vx_Met l y ws rm Pc Qc XC mc ms free) (cw : CallB R s args own index y bytes maxL ret ws rm mc ms n ∧ (Cond.static y).before args s = true) (hp : PreS s H Pc As)
    (hg : g.method = m) (hn : As.length = n) (hsize : g.locals.size = nL) (hstack : g.stack = As.reverse ++ rest) (hW : 2 * g.monitorRoom + (rest.map fun v => v.category).sum ≤ 8) (hdg : decode cc g.pc = .ok (.invokestatic index, 3)) (hf : cells + mc ≤ R.cells ∧ slots + ms ≤ R.slots) :
    vx_Run p l e R s m args below meth c H locs cells slots mc ms g rest (Qc As.toArray) XC free := by
  have hK : vx_Back l R p e below s args y 3 8 (PreOf R mc ms Pc) (PostOf Qc mc ms free) (vx_Post XC mc ms free) := vx_callBack cw.1 hM hp.1
  obtain ⟨⟨-, -, -, -, -, -, hcode, hini, hy, hlen, hl⟩, hstt⟩ := cw
  obtain ⟨hx, hb, hml, ho, -⟩ := S
  intro T hT X
  rcases vx_callS X hx (bytes := bytes) (maxL := maxL) (ret := ret) ho hl hstt hini hcode hy hK hg (hsize.trans hml.symm) (argsL := As) (rest := rest) (fun sig h => hn.trans (hlen sig h)) hstack hW (by rw [hb]; exact hdg)
    (fun vm₁ hW₁ => ⟨hf.1, hf.2, hp.2 (T.setVm vm₁) hT hW₁⟩) with ⟨v, vm₁, ⟨U', l2, c2, s2⟩, hW₁, X', ⟨g', mk, t, L, e1, e2, hq, h1, hL, h2, h3⟩, st⟩ | ⟨q, vm₁, ⟨U', l2, c2, s2⟩, hW₁, X', ⟨g', mk, t, L, E, ce, e1, e2, hq, hce, hcv, hcl, h1, hL, h2, h3⟩, st⟩
  · dsimp only [Pt.U, Pt.locs, Pt.cells, Pt.slots] at X' e1 e2 h1 h2 h3 st
    subst h1; subst h2; subst h3
    exact Or.inl ⟨v, (T.setVm vm₁).calling g' mk As.toArray, t, U', L, hT, X', hL, e1, e2, hq, st⟩
  · dsimp only [Pt.U, Pt.locs, Pt.cells, Pt.slots] at X' e1 e2 h1 h2 h3 st hcl
    subst h1; subst h2; subst h3
    exact Or.inr ⟨q, (T.setVm vm₁).calling g' mk As.toArray, t, U', L, E, ce, hT, X', hL, e1, e2, hq, hce, hcv, vx_cls hW₁ hcl, st⟩
end Runs
section Rows
variable {p : Program} {l : Launch} {e : Env} {R : Room} {s : State} {m : MethodId} {args : Array Value} {below : List Frame} {meth : Method} {c : Code} {H : Heap} {locs : List Loc} {cells slots : Nat} {Q : State → Prop}
variable {mc ms : Nat} {free : Addr → Prop} {A0 A1 : Nat → Prop} {H0 : Heap} {a : Array Value} {pc : Nat} {ls : Array Slot} {st0 rest : List Value}
theorem vx_keep {st₀ t T' : State} {L : List Loc} (h0 : st₀.heap = H) (e1 : T'.heap = t.heap) (hS : va_S A0 H0 H locs) (hA : ∀ q, q < H.size → A1 q → A0 q) (hf : ∀ q, free q → A0 q) (hL : ∀ q ∈ L, free q.base) (hF : va_F A1 st₀ t) :
    H.size ≤ T'.heap.size ∧ (∀ q : Nat, q < H.size → ¬ A1 q → T'.heap[q]? = H[q]?) ∧ va_S A0 H0 T'.heap (locs ++ L) := by
  obtain ⟨hz, hk⟩ := hF
  rw [h0] at hz hk
  exact ⟨by rw [e1]; exact hz, fun q h1 h2 => by rw [e1]; exact hk q h1 h2,
    ⟨Nat.le_trans hS.1 (by rw [e1]; exact hz), fun q h1 h2 => by rw [e1, hk q (Nat.lt_of_lt_of_le h1 hS.1) (fun z => h2 (hA q (Nat.lt_of_lt_of_le h1 hS.1) z))]; exact hS.2.1 q h1 h2, fun q hq => by
      rcases List.mem_append.mp hq with h | h
      · exact hS.2.2 q h
      · exact hf _ (hL q h)⟩⟩
theorem vx_calli {S SX : Type} {post : Int32 → S → Prop} {px : SX → Prop} {B : S → State → Prop} {BX : String → SX → State → Prop} {AX : Nat → Prop} (hr : vx_Run p l e R s m args below meth c H locs cells slots mc ms (F0 m pc ls st0) rest (va_Qi post B A1 a) (vx_X px BX AX) free) (hS : va_S A0 H0 H locs) (hA : ∀ q, q < H.size → A1 q → A0 q) (hf : ∀ q, free q → A0 q) (hAX : ∀ q, q < H.size → AX q → A0 q)
    (kx : ∀ (E : String) (ce : Cell) (q9 : Addr) (u : SX) (t : State) (H1 : Heap) (locs1 : List Loc), t.heap = H1 → s.vm.Alike t.vm → px u → BX E u t → H.size ≤ H1.size → (∀ q : Nat, q < H.size → ¬ AX q → H1[q]? = H[q]?) → va_S A0 H0 H1 locs1 → H1[q9]? = some ce → ce.vm = .none → s.vm.findClass E = some ce.cls → vx_W p l e R s m args below meth c H1 locs1 (cells + mc) (slots + ms) Q (F0 m pc ls rest) q9)
    (kk : ∀ (r : Int32) (u : S) (t : State) (H1 : Heap) (locs1 : List Loc), t.heap = H1 → s.vm.Alike t.vm → post r u → B u t → H.size ≤ H1.size → (∀ q : Nat, q < H.size → ¬ A1 q → H1[q]? = H[q]?) → va_S A0 H0 H1 locs1 → W p l e R s m args below meth c H1 locs1 (cells + mc) (slots + ms) Q (F0 m (pc + 3) ls (.int r :: rest))) : W p l e R s m args below meth c H locs cells slots Q (F0 m pc ls st0) := by
  intro T hT X
  rcases hr T hT X with ⟨v, st₀, t, T', L, h0, X', hL, e1, e2, ⟨⟨r, u, hv, hp, hb⟩, hF⟩, st⟩ | ⟨q, st₀, t, T', L, E, ce, h0, X', hL, e1, e2, ⟨u, hp, hb, hF⟩, hce, hcv, hcl, st⟩
  · cases hv
    obtain ⟨k1, k2, k3⟩ := vx_keep h0 e1 hS hA hf hL hF
    obtain ⟨t2, a1, b1⟩ := kk r u t T'.heap (locs ++ L) e1.symm (by rw [← e2]; exact X'.warmed.alike) hp hb k1 k2 k3 T' rfl X'
    exact ⟨t2, st t2 a1, b1⟩
  · obtain ⟨k1, k2, k3⟩ := vx_keep h0 e1 hS hAX hf hL hF
    obtain ⟨t2, a1, b1⟩ := kx E ce q u t T'.heap (locs ++ L) e1.symm (by rw [← e2]; exact X'.warmed.alike) hp hb k1 k2 k3 (by rw [e1]; exact hce) hcv hcl T' rfl X'
    exact ⟨t2, st.trans a1, b1⟩
theorem vx_calll {S SX : Type} {post : Int64 → S → Prop} {px : SX → Prop} {B : S → State → Prop} {BX : String → SX → State → Prop} {AX : Nat → Prop} (hr : vx_Run p l e R s m args below meth c H locs cells slots mc ms (F0 m pc ls st0) rest (va_Ql post B A1 a) (vx_X px BX AX) free) (hS : va_S A0 H0 H locs) (hA : ∀ q, q < H.size → A1 q → A0 q) (hf : ∀ q, free q → A0 q) (hAX : ∀ q, q < H.size → AX q → A0 q)
    (kx : ∀ (E : String) (ce : Cell) (q9 : Addr) (u : SX) (t : State) (H1 : Heap) (locs1 : List Loc), t.heap = H1 → s.vm.Alike t.vm → px u → BX E u t → H.size ≤ H1.size → (∀ q : Nat, q < H.size → ¬ AX q → H1[q]? = H[q]?) → va_S A0 H0 H1 locs1 → H1[q9]? = some ce → ce.vm = .none → s.vm.findClass E = some ce.cls → vx_W p l e R s m args below meth c H1 locs1 (cells + mc) (slots + ms) Q (F0 m pc ls rest) q9)
    (kk : ∀ (r : Int64) (u : S) (t : State) (H1 : Heap) (locs1 : List Loc), t.heap = H1 → s.vm.Alike t.vm → post r u → B u t → H.size ≤ H1.size → (∀ q : Nat, q < H.size → ¬ A1 q → H1[q]? = H[q]?) → va_S A0 H0 H1 locs1 → W p l e R s m args below meth c H1 locs1 (cells + mc) (slots + ms) Q (F0 m (pc + 3) ls (.long r :: rest))) : W p l e R s m args below meth c H locs cells slots Q (F0 m pc ls st0) := by
  intro T hT X
  rcases hr T hT X with ⟨v, st₀, t, T', L, h0, X', hL, e1, e2, ⟨⟨r, u, hv, hp, hb⟩, hF⟩, st⟩ | ⟨q, st₀, t, T', L, E, ce, h0, X', hL, e1, e2, ⟨u, hp, hb, hF⟩, hce, hcv, hcl, st⟩
  · cases hv
    obtain ⟨k1, k2, k3⟩ := vx_keep h0 e1 hS hA hf hL hF
    obtain ⟨t2, a1, b1⟩ := kk r u t T'.heap (locs ++ L) e1.symm (by rw [← e2]; exact X'.warmed.alike) hp hb k1 k2 k3 T' rfl X'
    exact ⟨t2, st t2 a1, b1⟩
  · obtain ⟨k1, k2, k3⟩ := vx_keep h0 e1 hS hAX hf hL hF
    obtain ⟨t2, a1, b1⟩ := kx E ce q u t T'.heap (locs ++ L) e1.symm (by rw [← e2]; exact X'.warmed.alike) hp hb k1 k2 k3 (by rw [e1]; exact hce) hcv hcl T' rfl X'
    exact ⟨t2, st.trans a1, b1⟩
theorem vx_callf {S SX : Type} {post : UInt32 → S → Prop} {px : SX → Prop} {B : S → State → Prop} {BX : String → SX → State → Prop} {AX : Nat → Prop} (hr : vx_Run p l e R s m args below meth c H locs cells slots mc ms (F0 m pc ls st0) rest (va_Qf post B A1 a) (vx_X px BX AX) free) (hS : va_S A0 H0 H locs) (hA : ∀ q, q < H.size → A1 q → A0 q) (hf : ∀ q, free q → A0 q) (hAX : ∀ q, q < H.size → AX q → A0 q)
    (kx : ∀ (E : String) (ce : Cell) (q9 : Addr) (u : SX) (t : State) (H1 : Heap) (locs1 : List Loc), t.heap = H1 → s.vm.Alike t.vm → px u → BX E u t → H.size ≤ H1.size → (∀ q : Nat, q < H.size → ¬ AX q → H1[q]? = H[q]?) → va_S A0 H0 H1 locs1 → H1[q9]? = some ce → ce.vm = .none → s.vm.findClass E = some ce.cls → vx_W p l e R s m args below meth c H1 locs1 (cells + mc) (slots + ms) Q (F0 m pc ls rest) q9)
    (kk : ∀ (r : UInt32) (u : S) (t : State) (H1 : Heap) (locs1 : List Loc), t.heap = H1 → s.vm.Alike t.vm → post r u → B u t → H.size ≤ H1.size → (∀ q : Nat, q < H.size → ¬ A1 q → H1[q]? = H[q]?) → va_S A0 H0 H1 locs1 → W p l e R s m args below meth c H1 locs1 (cells + mc) (slots + ms) Q (F0 m (pc + 3) ls (.float r :: rest))) : W p l e R s m args below meth c H locs cells slots Q (F0 m pc ls st0) := by
  intro T hT X
  rcases hr T hT X with ⟨v, st₀, t, T', L, h0, X', hL, e1, e2, ⟨⟨r, u, hv, hp, hb⟩, hF⟩, st⟩ | ⟨q, st₀, t, T', L, E, ce, h0, X', hL, e1, e2, ⟨u, hp, hb, hF⟩, hce, hcv, hcl, st⟩
  · cases hv
    obtain ⟨k1, k2, k3⟩ := vx_keep h0 e1 hS hA hf hL hF
    obtain ⟨t2, a1, b1⟩ := kk r u t T'.heap (locs ++ L) e1.symm (by rw [← e2]; exact X'.warmed.alike) hp hb k1 k2 k3 T' rfl X'
    exact ⟨t2, st t2 a1, b1⟩
  · obtain ⟨k1, k2, k3⟩ := vx_keep h0 e1 hS hAX hf hL hF
    obtain ⟨t2, a1, b1⟩ := kx E ce q u t T'.heap (locs ++ L) e1.symm (by rw [← e2]; exact X'.warmed.alike) hp hb k1 k2 k3 (by rw [e1]; exact hce) hcv hcl T' rfl X'
    exact ⟨t2, st.trans a1, b1⟩
theorem vx_calld {S SX : Type} {post : UInt64 → S → Prop} {px : SX → Prop} {B : S → State → Prop} {BX : String → SX → State → Prop} {AX : Nat → Prop} (hr : vx_Run p l e R s m args below meth c H locs cells slots mc ms (F0 m pc ls st0) rest (va_Qd post B A1 a) (vx_X px BX AX) free) (hS : va_S A0 H0 H locs) (hA : ∀ q, q < H.size → A1 q → A0 q) (hf : ∀ q, free q → A0 q) (hAX : ∀ q, q < H.size → AX q → A0 q)
    (kx : ∀ (E : String) (ce : Cell) (q9 : Addr) (u : SX) (t : State) (H1 : Heap) (locs1 : List Loc), t.heap = H1 → s.vm.Alike t.vm → px u → BX E u t → H.size ≤ H1.size → (∀ q : Nat, q < H.size → ¬ AX q → H1[q]? = H[q]?) → va_S A0 H0 H1 locs1 → H1[q9]? = some ce → ce.vm = .none → s.vm.findClass E = some ce.cls → vx_W p l e R s m args below meth c H1 locs1 (cells + mc) (slots + ms) Q (F0 m pc ls rest) q9)
    (kk : ∀ (r : UInt64) (u : S) (t : State) (H1 : Heap) (locs1 : List Loc), t.heap = H1 → s.vm.Alike t.vm → post r u → B u t → H.size ≤ H1.size → (∀ q : Nat, q < H.size → ¬ A1 q → H1[q]? = H[q]?) → va_S A0 H0 H1 locs1 → W p l e R s m args below meth c H1 locs1 (cells + mc) (slots + ms) Q (F0 m (pc + 3) ls (.double r :: rest))) : W p l e R s m args below meth c H locs cells slots Q (F0 m pc ls st0) := by
  intro T hT X
  rcases hr T hT X with ⟨v, st₀, t, T', L, h0, X', hL, e1, e2, ⟨⟨r, u, hv, hp, hb⟩, hF⟩, st⟩ | ⟨q, st₀, t, T', L, E, ce, h0, X', hL, e1, e2, ⟨u, hp, hb, hF⟩, hce, hcv, hcl, st⟩
  · cases hv
    obtain ⟨k1, k2, k3⟩ := vx_keep h0 e1 hS hA hf hL hF
    obtain ⟨t2, a1, b1⟩ := kk r u t T'.heap (locs ++ L) e1.symm (by rw [← e2]; exact X'.warmed.alike) hp hb k1 k2 k3 T' rfl X'
    exact ⟨t2, st t2 a1, b1⟩
  · obtain ⟨k1, k2, k3⟩ := vx_keep h0 e1 hS hAX hf hL hF
    obtain ⟨t2, a1, b1⟩ := kx E ce q u t T'.heap (locs ++ L) e1.symm (by rw [← e2]; exact X'.warmed.alike) hp hb k1 k2 k3 (by rw [e1]; exact hce) hcv hcl T' rfl X'
    exact ⟨t2, st.trans a1, b1⟩
theorem vx_callv {S SX : Type} {post : S → Prop} {px : SX → Prop} {B : S → State → Prop} {BX : String → SX → State → Prop} {AX : Nat → Prop} (hr : vx_Run p l e R s m args below meth c H locs cells slots mc ms (F0 m pc ls st0) rest (va_Qv post B A1 a) (vx_X px BX AX) free) (hS : va_S A0 H0 H locs) (hA : ∀ q, q < H.size → A1 q → A0 q) (hf : ∀ q, free q → A0 q) (hAX : ∀ q, q < H.size → AX q → A0 q)
    (kx : ∀ (E : String) (ce : Cell) (q9 : Addr) (u : SX) (t : State) (H1 : Heap) (locs1 : List Loc), t.heap = H1 → s.vm.Alike t.vm → px u → BX E u t → H.size ≤ H1.size → (∀ q : Nat, q < H.size → ¬ AX q → H1[q]? = H[q]?) → va_S A0 H0 H1 locs1 → H1[q9]? = some ce → ce.vm = .none → s.vm.findClass E = some ce.cls → vx_W p l e R s m args below meth c H1 locs1 (cells + mc) (slots + ms) Q (F0 m pc ls rest) q9)
    (kk : ∀ (u : S) (t : State) (H1 : Heap) (locs1 : List Loc), t.heap = H1 → s.vm.Alike t.vm → post u → B u t → H.size ≤ H1.size → (∀ q : Nat, q < H.size → ¬ A1 q → H1[q]? = H[q]?) → va_S A0 H0 H1 locs1 → W p l e R s m args below meth c H1 locs1 (cells + mc) (slots + ms) Q (F0 m (pc + 3) ls (rest))) : W p l e R s m args below meth c H locs cells slots Q (F0 m pc ls st0) := by
  intro T hT X
  rcases hr T hT X with ⟨v, st₀, t, T', L, h0, X', hL, e1, e2, ⟨⟨u, hv, hp, hb⟩, hF⟩, st⟩ | ⟨q, st₀, t, T', L, E, ce, h0, X', hL, e1, e2, ⟨u, hp, hb, hF⟩, hce, hcv, hcl, st⟩
  · cases hv
    obtain ⟨k1, k2, k3⟩ := vx_keep h0 e1 hS hA hf hL hF
    obtain ⟨t2, a1, b1⟩ := kk u t T'.heap (locs ++ L) e1.symm (by rw [← e2]; exact X'.warmed.alike) hp hb k1 k2 k3 T' rfl X'
    exact ⟨t2, st t2 a1, b1⟩
  · obtain ⟨k1, k2, k3⟩ := vx_keep h0 e1 hS hAX hf hL hF
    obtain ⟨t2, a1, b1⟩ := kx E ce q u t T'.heap (locs ++ L) e1.symm (by rw [← e2]; exact X'.warmed.alike) hp hb k1 k2 k3 (by rw [e1]; exact hce) hcv hcl T' rfl X'
    exact ⟨t2, st.trans a1, b1⟩
/-- caught by the row x of this method's table; the rows ahead don't take it -/
theorem vx_catch {own name : String} {E : String} {ce : Cell} {q : Addr} (hown : s.vm.findClass own = some m.cls) (pre : List ExceptionTableEntry) (x : ExceptionTableEntry) (suf : List ExceptionTableEntry) (hsplit : c.exceptionTable.toList = pre ++ x :: suf)
    (hpass : ∀ z ∈ pre, covers z pc = false ∨ (z.catchType ≠ 0 ∧ ∃ nm : String, (Cond.classLink own z.catchType nm).before args s = true ∧ va_Nc E nm s)) (hx : covers x pc = true) (h0 : x.catchType ≠ 0)
    (hlink : (Cond.classLink own x.catchType name).before args s = true) (hcast : (Cond.castable E name).before args s = true) (hcell : H[q]? = some ce) (hv : ce.vm = .none) (hcl : s.vm.findClass E = some ce.cls)
    (kk : W p l e R s m args below meth c H locs cells slots Q (F0 m x.handlerPc ls [.ref q])) : vx_W p l e R s m args below meth c H locs cells slots Q (F0 m pc ls rest) q := by
  intro T hT X
  have hpl : e.platform.magicAccessors = ({} : Platform).magicAccessors := by rw [X.admits.platform]
  obtain ⟨c3, c4, hc3, hc4, hasg⟩ := Cond.castable_spec hcast
  cases Option.some.inj (hc3.symm.trans hcl)
  obtain ⟨c5, hc5, hcl5⟩ := Cond.classLink_spec hown hlink e.platform hpl
  cases Option.some.inj (hc4.symm.trans hc5)
  obtain ⟨vm', X', st⟩ := X.thenCaughtThrough q (g := F0 m pc ls rest) rfl (Steps.refl _) (by rw [hT]; exact hcell) (by rw [hv]; rfl) (by obtain ⟨k9, h9, -⟩ := Vm.findClass_spec hcl; exact ⟨k9, h9⟩) pre x suf hsplit
    (fun z hz => by
      rcases hpass z hz with h | ⟨hz0, nm, hl1, hn1⟩
      · exact Or.inl h
      · obtain ⟨c6, hc6, hcl6⟩ := Cond.classLink_spec hown hl1 e.platform hpl
        obtain ⟨a8, b8, h1, h2, h3⟩ := hn1
        cases Option.some.inj (h1.symm.trans hcl)
        cases Option.some.inj (h2.symm.trans hc6)
        exact Or.inr ⟨hz0, _, hcl6, h3⟩) hx (Or.inr ⟨h0, c4, hcl5, hasg⟩)
  obtain ⟨t, a1, b1⟩ := kk (T.setVm vm') hT X'
  exact ⟨t, st.trans a1, b1⟩
end Rows
section Ends
variable {p : Program} {l : Launch} {e : Env} {R : Room} {s : State} {m : MethodId} {args : Array Value} {below : List Frame} {meth : Method} {c : Code} {H : Heap} {locs : List Loc} {cells slots : Nat} {Q : State → Prop}
variable {mc ms : Nat} {free : Addr → Prop} {A0 A1 : Nat → Prop} {H0 : Heap} {a : Array Value} {ls : Array Slot} {st0 rest : List Value}
variable {Qc : Array Value → State → Outcome → State → Prop} {XC : String → State → State → Prop}
/-- what a body that may throw owes at its end -/
def vx_MQ (below : List Frame) (Qc : Array Value → State → Outcome → State → Prop) (XC : String → State → State → Prop) (a : Array Value) (s : State) (mc ms : Nat) (free : Addr → Prop) : State → Prop := fun t =>
  ∃ o, t.status = .running ∧ Ended t below o ∧ vx_Q Qc XC mc ms free a s o t
theorem vx_ret {g : JFrame} {mc ms : Nat} (k : W p l e R s m args below meth c H locs cells slots (MQ below Qc args s mc ms free) g) : W p l e R s m args below meth c H locs cells slots (vx_MQ below Qc XC args s mc ms free) g := by
  intro T hT X
  obtain ⟨t, a1, o, b1, b2, b3, b4⟩ := k T hT X
  exact ⟨t, a1, o, b1, b2, Or.inl ⟨b3, b4⟩⟩
/-- not caught here: it goes on to the caller -/
theorem vx_widen {g : JFrame} {q : Addr} {k n : Nat} (h1 : cells ≤ k) (h2 : slots ≤ n) (kk : vx_W p l e R s m args below meth c H locs k n Q g q) : vx_W p l e R s m args below meth c H locs cells slots Q g q := fun T hT X => kk T hT (stand_widen X h1 h2)
theorem vx_out {pc : Nat} {E : String} {ce : Cell} {q : Addr} {mc ms : Nat} (hout : ∀ x ∈ c.exceptionTable.toList, covers x pc = false) (hlocks : meth.locks = false) (hcell : H[q]? = some ce) (hv : ce.vm = .none) (hcl : s.vm.findClass E = some ce.cls)
    (hx : ∀ t : State, t.heap = H → s.vm.Alike t.vm → XC E s t) (hf : ∀ z ∈ locs, free z.base) (hc : cells ≤ mc) (hs : slots ≤ ms) :
    vx_W p l e R s m args below meth c H locs cells slots (vx_MQ below Qc XC args s mc ms free) (F0 m pc ls rest) q := by
  intro T hT X
  obtain ⟨st1, hrun, hend, hW, hsm⟩ := X.leaveThrown q (g := F0 m pc ls rest) rfl rfl rfl hout hlocks
  have hcell9 : (T.setFrames (.throwing q :: below)).heap[q]? = some ce := by
    show T.heap[q]? = some ce
    rw [hT]; exact hcell
  exact ⟨_, st1, .threw q, hrun, hend, Or.inr ⟨q, rfl, E, ce, locs, hx _ hT hW.alike, hcell9, hv, hcl, hW, hsm.mono hc hs, hf⟩⟩
theorem vx_frame {U : State} {k n : Nat} (h : s.sameButNew ({ U with vm := s.vm } : State) locs k n) : s.heap.size ≤ U.heap.size ∧ ∀ q : Nat, q < s.heap.size → (∀ z ∈ locs, z.base ≠ q) → U.heap[q]? = s.heap[q]? := by
  obtain ⟨-, h2, -, -, -, h6⟩ := h
  refine ⟨h2, fun q hq hz => ?_⟩
  obtain ⟨c9, e1, e2, e3, e4⟩ := h6 q _ (Array.getElem?_eq_getElem hq)
  have hs : c9.slots = (s.heap[q]).slots := Array.ext_getElem? fun i => e4 i fun hm => hz _ hm rfl
  have h9 : c9 = s.heap[q] := by
    rw [hs] at e2
    exact e2
  have e5 : U.heap[q]? = some c9 := e1
  rw [e5, h9, Array.getElem?_eq_getElem hq]
/-- the words of a throw but the four that speak of the heap -/
def vx_no (w : Cond) : Bool := decide (w ≠ .isRef (.static Bundle.tN "UNASSIGNED_STACK" Bundle.steD)) && decide (w ≠ .isRef (.static Bundle.tN "SUPPRESSED_SENTINEL" Bundle.listD)) && decide (w ≠ .laysStatic Bundle.tN "UNASSIGNED_STACK" Bundle.steD) && decide (w ≠ .laysStatic Bundle.tN "SUPPRESSED_SENTINEL" Bundle.listD)
def vx_at0 (own : String) (ic : Nat) (X : String) (names : List String) : List Cond := (Bundle.ownAtoms0 own ic X names).filter vx_no
def vx_atS (own : String) (ic : Nat) (X : String) (names : List String) : List Cond := (Bundle.ownAtoms own ic X names).filter vx_no
/-- a word that the tables alone decide, or a good one -/
def vx_ot (w : Cond) : Bool := w.onTables || goodWord w
theorem vx_ot_at {args a' : Array Value} {s U : State} {w : Cond} (hW : s.WarmedH U.vm) (hvm : s.vm = U.vm) (hg : vx_ot w = true) (h : w.before args s = true) : w.before a' U = true := by
  simp only [vx_ot, Bool.or_eq_true] at hg
  rcases hg with hg | hg
  · exact va_tabs hg hvm h
  · exact word_at hW (good_of_word hg) h
/-- a list's words: the good ones out of the method's own list, the others by premises of their own -/
theorem vx_hat {args : Array Value} {s : State} {L B : List Cond} (h1 : ∀ w ∈ L.filter goodWord, w.before args s = true) (h2 : ∀ w ∈ L.filter (fun w => !goodWord w), w ∈ B) (h3 : ∀ w ∈ B, w.before args s = true) : ∀ w ∈ L, w.before args s = true := by
  intro w hw
  by_cases g : goodWord w = true
  · exact h1 w (List.mem_filter.mpr ⟨hw, g⟩)
  · refine h3 w (h2 w (List.mem_filter.mpr ⟨hw, ?_⟩))
    show (!goodWord w) = true
    cases hgw : goodWord w
    · rfl
    · exact absurd hgw g
theorem vx_c {args : Array Value} {s : State} {w : Cond} {B : List Cond} (h : w.before args s = true) (t : ∀ w ∈ B, w.before args s = true) : ∀ w' ∈ w :: B, w'.before args s = true := fun w' h' => (List.mem_cons.mp h').elim (fun e => by rw [e]; exact h) (t w')
theorem vx_n {args : Array Value} {s : State} : ∀ w ∈ ([] : List Cond), w.before args s = true := fun _ h => nomatch h
theorem vx_own {args : Array Value} {s : State} {L : List Cond} (h1 : ∀ w ∈ L.filter vx_no, w.before args s = true)
    (hU : (Cond.isRef (.static Bundle.tN "UNASSIGNED_STACK" Bundle.steD)).before args s = true) (hN : (Cond.isRef (.static Bundle.tN "SUPPRESSED_SENTINEL" Bundle.listD)).before args s = true)
    (lU : (Cond.laysStatic Bundle.tN "UNASSIGNED_STACK" Bundle.steD).before args s = true) (lN : (Cond.laysStatic Bundle.tN "SUPPRESSED_SENTINEL" Bundle.listD).before args s = true) : ∀ w ∈ L, w.before args s = true := by
  intro w hw
  by_cases e1 : w = .isRef (.static Bundle.tN "UNASSIGNED_STACK" Bundle.steD)
  · rw [e1]; exact hU
  · by_cases e2 : w = .isRef (.static Bundle.tN "SUPPRESSED_SENTINEL" Bundle.listD)
    · rw [e2]; exact hN
    · by_cases e3 : w = .laysStatic Bundle.tN "UNASSIGNED_STACK" Bundle.steD
      · rw [e3]; exact lU
      · by_cases e4 : w = .laysStatic Bundle.tN "SUPPRESSED_SENTINEL" Bundle.listD
        · rw [e4]; exact lN
        · exact h1 w (List.mem_filter.mpr ⟨hw, by unfold vx_no; rw [decide_eq_true e1, decide_eq_true e2, decide_eq_true e3, decide_eq_true e4]; rfl⟩)
/-- where a static field lies, its class's statics cell in H -/
def vx_L (C n d : String) (A : Nat → Prop) (U : State) (H : Heap) : Prop := ∃ (c : ClassId) (k : Class) (i : Nat) (f : Field) (a : Nat) (cell : Cell), U.vm.findClass C = some c ∧ U.fieldFound? C n d = some (c, k, i, f) ∧ f.isStatic = true ∧ k.statics = some a ∧ H[a]? = some cell ∧ cell.vm.isStatics = true ∧ cell.cls = c ∧ f.slot < cell.slots.size ∧ k.staticTypes[f.slot]? = some f.type ∧ ¬ A a
theorem vx_L.moved {C n d : String} {A : Nat → Prop} {u U : State} {H : Heap} (hvm : u.vm.Alike U.vm) (h : vx_L C n d A u H) : vx_L C n d A U H := by
  obtain ⟨c, k, i, f, a, cell, h1, h2, h3, h4, h5, h6, h7, h8, h9, h10⟩ := h
  obtain ⟨k', hi', he⟩ := State.fieldFound?_setVm hvm h2
  exact ⟨c, k', i, f, a, cell, by rw [hvm.findClass]; exact h1, hi', h3, by rw [he]; exact h4, h5, h6, h7, h8, by rw [he]; exact h9, h10⟩
theorem vx_L.kept {C n d : String} {A : Nat → Prop} {U : State} {H H1 : Heap} (h : vx_L C n d A U H) (hq : ∀ a : Nat, a < H.size → ¬ A a → H1[a]? = H[a]?) : vx_L C n d A U H1 := by
  obtain ⟨c, k, i, f, a, cell, h1, h2, h3, h4, h5, h6, h7, h8, h9, h10⟩ := h
  exact ⟨c, k, i, f, a, cell, h1, h2, h3, h4, by rw [hq a (Array.getElem?_eq_some_iff.mp h5).1 h10]; exact h5, h6, h7, h8, h9, h10⟩
theorem vx_L.narrow {C n d : String} {A B : Nat → Prop} {U : State} {H : Heap} (h : vx_L C n d A U H) (hAB : ∀ q, B q → A q) : vx_L C n d B U H := by
  obtain ⟨c, k, i, f, a, cell, h1, h2, h3, h4, h5, h6, h7, h8, h9, h10⟩ := h
  exact ⟨c, k, i, f, a, cell, h1, h2, h3, h4, h5, h6, h7, h8, h9, fun z => h10 (hAB _ z)⟩
theorem vx_L.word {C n d : String} {A : Nat → Prop} {s : State} {args : Array Value} (h : vx_L C n d A s s.heap) : (Cond.laysStatic C n d).before args s = true := by
  obtain ⟨c, k, i, f, a, cell, h1, h2, h3, h4, h5, h6, h7, h8, h9, -⟩ := h
  show (Cond.laysStatic C n d).holds args s none s [] = true
  exact Cond.laysStatic_of h1 h2 h3 h4 h5 h6 h7 h8 h9
/-- .. and what it holds: null or some reference -/
def vx_Zq (C n d : String) (A : Nat → Prop) (U : State) (H : Heap) : Prop := va_Zq C n d A U H ∧ vx_L C n d A U H
theorem vx_Zq.moved {C n d : String} {A : Nat → Prop} {u U : State} {H : Heap} (hvm : u.vm.Alike U.vm) (h : vx_Zq C n d A u H) : vx_Zq C n d A U H := ⟨va_Zq.moved hvm h.1, vx_L.moved hvm h.2⟩
theorem vx_Zq.kept {C n d : String} {A : Nat → Prop} {U : State} {H H1 : Heap} (h : vx_Zq C n d A U H) (hq : ∀ a : Nat, a < H.size → ¬ A a → H1[a]? = H[a]?) : vx_Zq C n d A U H1 := ⟨va_Zq.kept h.1 hq, vx_L.kept h.2 hq⟩
theorem vx_Zq.narrow {C n d : String} {A B : Nat → Prop} {U : State} {H : Heap} (h : vx_Zq C n d A U H) (hAB : ∀ q, B q → A q) : vx_Zq C n d B U H := ⟨va_Zq.narrow h.1 hAB, vx_L.narrow h.2 hAB⟩
theorem vx_Zqof {args : Array Value} {s : State} {C n d : String} {A : Nat → Prop} (hl : (Cond.laysStatic C n d).before args s = true) (hini : (Cond.initialized C).before args s = true) (h : (Cond.isRef (.static C n d)).before args s = true) (hA : ∀ a : Nat, a < s.heap.size → ¬ A a) : vx_Zq C n d A s s.heap := by
  refine ⟨va_Zqof hl hini h hA, ?_⟩
  obtain ⟨c, k, i, f, a, cell, h1, h2, h3, h4, h5, h6, h7, h8, h9⟩ := Cond.laysStatic_spec hl
  exact ⟨c, k, i, f, a, cell, h1, h2, h3, h4, h5, h6, h7, h8, h9, hA a (Array.getElem?_eq_some_iff.mp h5).1⟩
theorem vx_isRef {C n d : String} {v : Value} {A : Nat → Prop} {s : State} {args : Array Value} (h : va_Z C n d v A s s.heap) (hv : v.isRef = true) : (Cond.isRef (.static C n d)).before args s = true := by
  obtain ⟨cf, kf, fi, f, a, cell, h1, h2, h3, h4, h5, h6, h7, -⟩ := h
  have he : (Term.static C n d).eval args s none [] s = some v := by
    simp [Term.eval, State.fieldNamed?, h1, h2, h4, h5, h6, h7]
  simp only [Cond.before, Cond.holds, Cond.value, he]
  cases v <;> simp_all [Value.isRef]
theorem vx_isRefq {C n d : String} {A : Nat → Prop} {s : State} {args : Array Value} (h : va_Zq C n d A s s.heap) : (Cond.isRef (.static C n d)).before args s = true := by
  rcases h with h | ⟨t, h⟩
  · exact vx_isRef h rfl
  · exact vx_isRef h rfl
/-- the same frame, seen from here: as if the method were called anew in this heap -/
theorem vx_rebase {T : State} (X : Stand p l e R s m args below meth c T locs cells slots) {R' : Room} (hf : R'.frames ≤ R.frames) (hl : R'.locals ≤ R.locals) (hc : cells + R'.cells ≤ R.cells) (hs : slots + R'.slots ≤ R.slots) :
    Stand p l e R' ((T.setVm s.vm).setFrames (.invoking m args :: below)) m args below meth c T [] 0 0 := by
  have htop : (T.setVm s.vm).topJava?.isSome := X.here.top
  have hF : ((T.setVm s.vm).setFrames (.invoking m args :: below)).frames = .invoking m args :: below := State.frames_setFrames _ (State.cur_lt_of_top htop)
  obtain ⟨g₀, hg0⟩ := Option.isSome_iff_exists.mp htop
  obtain ⟨r, hr⟩ := State.topJava?_eq_some.mp hg0
  have hl9 : e.platform.stackLimits (T.setVm s.vm).me = e.platform.stackLimits s.me := X.limits
  have hb9 : (T.setVm s.vm).me.stackBytes = s.me.stackBytes := X.bytes
  refine ⟨X.admits, X.cas, X.clock, hF, ?_, X.hears, X.method, X.code, X.here, X.tail, X.warmed, ?_, ?_, ?_⟩
  · have h := X.room
    have hU : ((T.setVm s.vm).setFrames (.invoking m args :: below)).localsInUse = s.localsInUse := by
      rw [State.localsInUse_invoking hF (meth := meth) (c := c) X.method X.code, State.localsInUse_invoking X.frames X.method X.code]
    simp only [State.hasRoom, Bool.and_eq_true, decide_eq_true_eq] at h ⊢
    obtain ⟨⟨⟨⟨h1, h2, h3, h4, h5, h6⟩, h7⟩, h8⟩, h9⟩ := h
    rw [X.frames, List.length_cons] at h2 h3
    have q1 := X.heapSize
    have q2 := X.used
    simp only [hF, hU, List.length_cons, State.stackLimits_setFrames, State.stackBytes_setFrames, hl9, hb9]
    refine ⟨⟨⟨⟨by omega, by omega, by omega, by omega, by omega, h6⟩, ?_⟩, ?_⟩, X.book⟩
    · show T.heap.size + R'.cells ≤ e.platform.maxCells
      omega
    · show T.slotsUsed + R'.slots ≤ e.platform.maxSlots
      omega
  · rw [State.stackLimits_setFrames]; rfl
  · rw [State.stackBytes_setFrames]; rfl
  · refine ⟨?_, Nat.le_refl _, Nat.le_refl _, ?_, ?_, fun a c9 h9 => ⟨c9, h9, rfl, rfl, fun _ _ => rfl⟩⟩
    · obtain ⟨t, ht, -⟩ := State.frames_cons hr
      show T.setVm s.vm = { ((T.setVm s.vm).setFrames (.invoking m args :: below)).setFrames (T.setVm s.vm).frames with heap := T.heap, slotsUsed := T.slotsUsed }
      rw [State.setFrames_setFrames, State.setFrames_self ht]
      rfl
    · show T.slotsUsed = T.slotsUsed + ((T.heap.toList.drop T.heap.size).map (·.slots.size)).sum
      rw [List.drop_eq_nil_of_le (Nat.le_of_eq Array.length_toList)]
      rfl
    · show ((T.heap.toList.drop T.heap.size).map (·.slots.size)).sum ≤ 0
      rw [List.drop_eq_nil_of_le (Nat.le_of_eq Array.length_toList)]
      exact Nat.le_refl _
/-- 'throw new E()': new; dup; invokespecial; athrow -/
theorem vx_throw0 {cc : ByteArray} {pc : Nat} (hexec : p.tables.exec = Jvm.exec) (hb : c.code = cc) (hl : l.stackTraces = false) {own cls : String} {names : List String} {ik ic mc ms : Nat} {A : Nat → Prop}
    (hown : s.vm.findClass own = some m.cls) (hcls : Bundle.fit cls = true) (hnames : ∀ n ∈ names, Bundle.fit n = true)
    (hk : (Cond.classLink own ik cls).before args s = true) (hini : (Cond.initialized cls).before args s = true) (hat : ∀ w ∈ vx_at0 own ic cls names, w.before args s = true)
    (hgood : ∀ w ∈ Cond.classLink own ik cls :: Cond.initialized cls :: vx_at0 own ic cls names, vx_ot w = true)
    (hU : vx_Zq Bundle.tN "UNASSIGNED_STACK" Bundle.steD A s s.heap) (hN : vx_Zq Bundle.tN "SUPPRESSED_SENTINEL" Bundle.listD A s s.heap) (hS : va_S A s.heap H locs) (hsize : ls.size = c.maxLocals)
    (d0 : decode cc pc = .ok (.new ik, 3)) (d3 : decode cc (pc + 3) = .ok (.dup, 1)) (d4 : decode cc (pc + 4) = .ok (.invokespecial ic, 3)) (d7 : decode cc (pc + 7) = .ok (.athrow, 1))
    (hout : ∀ x ∈ c.exceptionTable.toList, covers x (pc + 7) = false)
    (hRframes : names.length + 3 < R.frames) (hRlocals : (rest.map fun v => v.category).sum + (13 * (names.length + 1) + 42) ≤ R.locals) (hRcells : cells + 1 ≤ R.cells) (hRslots : slots + 6 ≤ R.slots) (hlocks : meth.locks = false)
    (hx : ∀ t : State, s.vm.Alike t.vm → H.size ≤ t.heap.size → (∀ q : Nat, q < H.size → t.heap[q]? = H[q]?) → XC cls s t)
    (hf : ∀ z ∈ locs, free z.base) (hc : cells + 1 ≤ mc) (hs : slots + 6 ≤ ms) :
    W p l e R s m args below meth c H locs cells slots (vx_MQ below Qc XC args s mc ms free) (F0 m pc ls rest) := by
  intro T hT X
  have htr : e.platform.stackTraces = false := (show e.platform.stackTraces = l.stackTraces by rw [X.admits.platform]).trans hl
  have Y := vx_rebase X (R' := { frames := R.frames, locals := R.locals, cells := 1, slots := 6 }) (Nat.le_refl _) (Nat.le_refl _) hRcells hRslots
  obtain ⟨s', hA⟩ : ∃ z, z = (T.setVm s.vm).setFrames (.invoking m args :: below) := ⟨_, rfl⟩
  rw [← hA] at Y
  have hvm : s'.vm = s.vm := by rw [hA]; rfl
  have hhp : s'.heap = H := by rw [hA]; exact hT
  have hW0 : s.WarmedH s'.vm := by rw [hvm]; exact State.WarmedH.refl s
  have hat' : ∀ w ∈ vx_at0 own ic cls names, w.before args s' = true := fun w hw => vx_ot_at hW0 hvm.symm (hgood w (List.mem_cons_of_mem _ (List.mem_cons_of_mem _ hw))) (hat w hw)
  have hk' : (Cond.classLink own ik cls).before args s' = true := vx_ot_at hW0 hvm.symm (hgood _ List.mem_cons_self) hk
  have hini' : (Cond.initialized cls).before args s' = true := vx_ot_at hW0 hvm.symm (hgood _ (List.mem_cons_of_mem _ List.mem_cons_self)) hini
  have hU' : vx_Zq Bundle.tN "UNASSIGNED_STACK" Bundle.steD A s' s'.heap := by rw [hhp]; exact vx_Zq.moved hW0.alike (hU.kept hS.2.1)
  have hN' : vx_Zq Bundle.tN "SUPPRESSED_SENTINEL" Bundle.listD A s' s'.heap := by rw [hhp]; exact vx_Zq.moved hW0.alike (hN.kept hS.2.1)
  have h : ∀ w ∈ Bundle.ownAtoms0 own ic cls names, w.before args s' = true := vx_own hat' (vx_isRefq hU'.1) (vx_isRefq hN'.1) hU'.2.word hN'.2.word
  have hown' : s'.vm.findClass own = some m.cls := by rw [hvm]; exact hown
  have hins : (Cond.instantiable cls 6).before args s' = true := h _ (by simp [Bundle.ownAtoms0])
  obtain ⟨vm₁, cX, kX, hfX, hkX, -, -, X₁, st1⟩ := Y.newCold hexec (own := own) (C := cls) (index := ik) (n := 6) hown' hk' hins hini'
    (g := F0 m pc ls rest) rfl (by rw [hb]; exact d0) (Nat.le_refl _) (Nat.le_refl _)
  generalize hT1 : (T.setVm vm₁).pushCell { cls := cX, slots := kX.instanceTypes.map defaultValue, vm := .none } = T1 at X₁ st1
  have hcat : (Value.ref T.heap.size).category = 1 := rfl
  have hcellA : T1.heap[T.heap.size]? = some (freshCell cX kX) := by rw [← hT1]; exact State.heap_pushCell_size _ _
  have d3' : decode c.code (pc + 3) = .ok (.dup, 1) := by rw [hb]; exact d3
  obtain ⟨U, hsteps, hrun, hend, hW, hsame, ce, hce, hO⟩ := X₁.ctorThrow0 hexec htr (own := own) (cls := cls) (names := names) (ic := ic) hown' hcls hnames h (fun x hx => nomatch hx) hfX hkX hcellA (by rw [hhp, hT]; exact Nat.le_refl _)
    (g := { method := m, pc := pc + 4, locals := ls, stack := .ref T.heap.size :: .ref T.heap.size :: rest, locked := none }) rfl hsize rfl rfl (rest := rest) rfl
    (by rw [hb]; exact d4) (by rw [hb]; exact d7) hout hRframes (by simp only [List.map_cons, List.sum_cons, hcat]; omega) hlocks
  obtain ⟨f1, f2⟩ := vx_frame hsame
  rw [hhp] at f1 f2
  have hWs : s.WarmedH U.vm := State.WarmedH.trans hW0 hW
  have hcl : s.vm.findClass cls = some ce.cls := by
    have h9 := hO.cls
    rw [hvm] at h9
    exact h9
  have hall : s.sameButNew ({ U with vm := s.vm } : State) locs mc ms := by
    subst hA
    obtain ⟨e1, e2⟩ := hsame
    rw [State.setFrames_setFrames] at e1
    have h2 : (T.setVm s.vm).sameButNew ({ U with vm := s.vm } : State) [] (0 + 1) (0 + 6) := ⟨e1, e2⟩
    have h3 := X.same.trans h2
    rw [List.append_nil] at h3
    exact h3.mono hc hs
  refine ⟨U, ?_, .threw T.heap.size, hrun, hend, Or.inr ⟨T.heap.size, rfl, cls, ce, locs, hx U hWs.alike f1 (fun q hq => f2 q hq (fun z hz => nomatch hz)), hce, hO.vm, hcl, hWs, hall, hf⟩⟩
  refine st1 _ ?_
  show Steps p.tables e below (T1.setTop { method := m, pc := pc + 3, locals := ls, stack := .ref T.heap.size :: rest, locked := none }) _
  jvm_step X₁.here [X₁.here.top, hexec, d3', Value.category]
  exact hsteps
/-- 'throw new E("text")': new; dup; ldc; invokespecial; athrow -/
theorem vx_throwS {cc : ByteArray} {pc : Nat} (hexec : p.tables.exec = Jvm.exec) (hb : c.code = cc) (hl : l.stackTraces = false) {own cls text : String} {names : List String} {ik is ic mc ms sa : Nat} {A : Nat → Prop}
    (hown : s.vm.findClass own = some m.cls) (hcls : Bundle.fit cls = true) (hnames : ∀ n ∈ names, Bundle.fit n = true)
    (hk : (Cond.classLink own ik cls).before args s = true) (hini : (Cond.initialized cls).before args s = true) (hstr : vk_R own is text sa s) (hat : ∀ w ∈ vx_atS own ic cls names, w.before args s = true)
    (hgood : ∀ w ∈ Cond.classLink own ik cls :: Cond.initialized cls :: vx_atS own ic cls names, vx_ot w = true)
    (hU : vx_Zq Bundle.tN "UNASSIGNED_STACK" Bundle.steD A s s.heap) (hN : vx_Zq Bundle.tN "SUPPRESSED_SENTINEL" Bundle.listD A s s.heap) (hS : va_S A s.heap H locs) (hsize : ls.size = c.maxLocals)
    (d0 : decode cc pc = .ok (.new ik, 3)) (d3 : decode cc (pc + 3) = .ok (.dup, 1)) (d4 : decode cc (pc + 4) = .ok (.ldc is, 2)) (d6 : decode cc (pc + 6) = .ok (.invokespecial ic, 3)) (d9 : decode cc (pc + 9) = .ok (.athrow, 1))
    (hout : ∀ x ∈ c.exceptionTable.toList, covers x (pc + 9) = false)
    (hRframes : names.length + 3 < R.frames) (hRlocals : (rest.map fun v => v.category).sum + (13 * (names.length + 1) + 43) ≤ R.locals) (hRcells : cells + 1 ≤ R.cells) (hRslots : slots + 6 ≤ R.slots) (hlocks : meth.locks = false)
    (hx : ∀ t : State, s.vm.Alike t.vm → H.size ≤ t.heap.size → (∀ q : Nat, q < H.size → t.heap[q]? = H[q]?) → XC cls s t)
    (hf : ∀ z ∈ locs, free z.base) (hc : cells + 1 ≤ mc) (hs : slots + 6 ≤ ms) :
    W p l e R s m args below meth c H locs cells slots (vx_MQ below Qc XC args s mc ms free) (F0 m pc ls rest) := by
  intro T hT X
  have htr : e.platform.stackTraces = false := (show e.platform.stackTraces = l.stackTraces by rw [X.admits.platform]).trans hl
  have Y := vx_rebase X (R' := { frames := R.frames, locals := R.locals, cells := 1, slots := 6 }) (Nat.le_refl _) (Nat.le_refl _) hRcells hRslots
  obtain ⟨s', hA⟩ : ∃ z, z = (T.setVm s.vm).setFrames (.invoking m args :: below) := ⟨_, rfl⟩
  rw [← hA] at Y
  have hvm : s'.vm = s.vm := by rw [hA]; rfl
  have hhp : s'.heap = H := by rw [hA]; exact hT
  have hW0 : s.WarmedH s'.vm := by rw [hvm]; exact State.WarmedH.refl s
  have hat' : ∀ w ∈ vx_atS own ic cls names, w.before args s' = true := fun w hw => vx_ot_at hW0 hvm.symm (hgood w (List.mem_cons_of_mem _ (List.mem_cons_of_mem _ hw))) (hat w hw)
  have hk' : (Cond.classLink own ik cls).before args s' = true := vx_ot_at hW0 hvm.symm (hgood _ List.mem_cons_self) hk
  have hini' : (Cond.initialized cls).before args s' = true := vx_ot_at hW0 hvm.symm (hgood _ (List.mem_cons_of_mem _ List.mem_cons_self)) hini
  have hU' : vx_Zq Bundle.tN "UNASSIGNED_STACK" Bundle.steD A s' s'.heap := by rw [hhp]; exact vx_Zq.moved hW0.alike (hU.kept hS.2.1)
  have hN' : vx_Zq Bundle.tN "SUPPRESSED_SENTINEL" Bundle.listD A s' s'.heap := by rw [hhp]; exact vx_Zq.moved hW0.alike (hN.kept hS.2.1)
  have h : ∀ w ∈ Bundle.ownAtoms own ic cls names, w.before args s' = true := vx_own hat' (vx_isRefq hU'.1) (vx_isRefq hN'.1) hU'.2.word hN'.2.word
  have hown' : s'.vm.findClass own = some m.cls := by rw [hvm]; exact hown
  have hins : (Cond.instantiable cls 6).before args s' = true := h _ (by simp [Bundle.ownAtoms])
  obtain ⟨vm₁, cX, kX, hfX, hkX, -, -, X₁, st1⟩ := Y.newCold hexec (own := own) (C := cls) (index := ik) (n := 6) hown' hk' hins hini'
    (g := F0 m pc ls rest) rfl (by rw [hb]; exact d0) (Nat.le_refl _) (Nat.le_refl _)
  generalize hT1 : (T.setVm vm₁).pushCell { cls := cX, slots := kX.instanceTypes.map defaultValue, vm := .none } = T1 at X₁ st1
  have hcat : (Value.ref T.heap.size).category = 1 := rfl
  have hcellA : T1.heap[T.heap.size]? = some (freshCell cX kX) := by rw [← hT1]; exact State.heap_pushCell_size _ _
  have d3' : decode c.code (pc + 3) = .ok (.dup, 1) := by rw [hb]; exact d3
  have d4' : decode c.code (pc + 4) = .ok (.ldc is, 2) := by rw [hb]; exact d4
  have hstr' : vk_R own is text sa s' := vk_R.warm hW0 hstr
  obtain ⟨U, hsteps, hrun, hend, hW, hsame, ce, hce, hO⟩ := X₁.ctorThrowS hexec htr (own := own) (cls := cls) (names := names) (ic := ic) hown' hcls hnames h (fun x hx => nomatch hx) hfX hkX hcellA (by rw [hhp, hT]; exact Nat.le_refl _) (msg := .ref sa) rfl
    (g := { method := m, pc := pc + 6, locals := ls, stack := .ref sa :: .ref T.heap.size :: .ref T.heap.size :: rest, locked := none }) rfl hsize rfl rfl (rest := rest) rfl
    (by rw [hb]; exact d6) (by rw [hb]; exact d9) hout hRframes (by simp only [List.map_cons, List.sum_cons, hcat]; omega) hlocks
  obtain ⟨f1, f2⟩ := vx_frame hsame
  rw [hhp] at f1 f2
  have hWs : s.WarmedH U.vm := State.WarmedH.trans hW0 hW
  have hcl : s.vm.findClass cls = some ce.cls := by
    have h9 := hO.cls
    rw [hvm] at h9
    exact h9
  have hall : s.sameButNew ({ U with vm := s.vm } : State) locs mc ms := by
    subst hA
    obtain ⟨e1, e2⟩ := hsame
    rw [State.setFrames_setFrames] at e1
    have h2 : (T.setVm s.vm).sameButNew ({ U with vm := s.vm } : State) [] (0 + 1) (0 + 6) := ⟨e1, e2⟩
    have h3 := X.same.trans h2
    rw [List.append_nil] at h3
    exact h3.mono hc hs
  refine ⟨U, ?_, .threw T.heap.size, hrun, hend, Or.inr ⟨T.heap.size, rfl, cls, ce, locs, hx U hWs.alike f1 (fun q hq => f2 q hq (fun z hz => nomatch hz)), hce, hO.vm, hcl, hWs, hall, hf⟩⟩
  refine st1 _ ?_
  show Steps p.tables e below (T1.setTop { method := m, pc := pc + 3, locals := ls, stack := .ref T.heap.size :: rest, locked := none }) _
  jvm_step X₁.here [X₁.here.top, hexec, d3', Value.category]
  exact X₁.ldcString hexec (own := own) (text := text) (index := is) (a := sa) hown' hstr'.1 hstr'.2
    (g := { method := m, pc := pc + 4, locals := ls, stack := .ref T.heap.size :: .ref T.heap.size :: rest, locked := none }) rfl d4' _ hsteps
/-- 'throw new E("text")', the text by a wide index -/
theorem vx_throwSW {cc : ByteArray} {pc : Nat} (hexec : p.tables.exec = Jvm.exec) (hb : c.code = cc) (hl : l.stackTraces = false) {own cls text : String} {names : List String} {ik is ic mc ms sa : Nat} {A : Nat → Prop}
    (hown : s.vm.findClass own = some m.cls) (hcls : Bundle.fit cls = true) (hnames : ∀ n ∈ names, Bundle.fit n = true)
    (hk : (Cond.classLink own ik cls).before args s = true) (hini : (Cond.initialized cls).before args s = true) (hstr : vk_R own is text sa s) (hat : ∀ w ∈ vx_atS own ic cls names, w.before args s = true)
    (hgood : ∀ w ∈ Cond.classLink own ik cls :: Cond.initialized cls :: vx_atS own ic cls names, vx_ot w = true)
    (hU : vx_Zq Bundle.tN "UNASSIGNED_STACK" Bundle.steD A s s.heap) (hN : vx_Zq Bundle.tN "SUPPRESSED_SENTINEL" Bundle.listD A s s.heap) (hS : va_S A s.heap H locs) (hsize : ls.size = c.maxLocals)
    (d0 : decode cc pc = .ok (.new ik, 3)) (d3 : decode cc (pc + 3) = .ok (.dup, 1)) (d4 : decode cc (pc + 4) = .ok (.ldc_w is, 3)) (d7 : decode cc (pc + 7) = .ok (.invokespecial ic, 3)) (d10 : decode cc (pc + 10) = .ok (.athrow, 1))
    (hout : ∀ x ∈ c.exceptionTable.toList, covers x (pc + 10) = false)
    (hRframes : names.length + 3 < R.frames) (hRlocals : (rest.map fun v => v.category).sum + (13 * (names.length + 1) + 43) ≤ R.locals) (hRcells : cells + 1 ≤ R.cells) (hRslots : slots + 6 ≤ R.slots) (hlocks : meth.locks = false)
    (hx : ∀ t : State, s.vm.Alike t.vm → H.size ≤ t.heap.size → (∀ q : Nat, q < H.size → t.heap[q]? = H[q]?) → XC cls s t)
    (hf : ∀ z ∈ locs, free z.base) (hc : cells + 1 ≤ mc) (hs : slots + 6 ≤ ms) :
    W p l e R s m args below meth c H locs cells slots (vx_MQ below Qc XC args s mc ms free) (F0 m pc ls rest) := by
  intro T hT X
  have htr : e.platform.stackTraces = false := (show e.platform.stackTraces = l.stackTraces by rw [X.admits.platform]).trans hl
  have Y := vx_rebase X (R' := { frames := R.frames, locals := R.locals, cells := 1, slots := 6 }) (Nat.le_refl _) (Nat.le_refl _) hRcells hRslots
  obtain ⟨s', hA⟩ : ∃ z, z = (T.setVm s.vm).setFrames (.invoking m args :: below) := ⟨_, rfl⟩
  rw [← hA] at Y
  have hvm : s'.vm = s.vm := by rw [hA]; rfl
  have hhp : s'.heap = H := by rw [hA]; exact hT
  have hW0 : s.WarmedH s'.vm := by rw [hvm]; exact State.WarmedH.refl s
  have hat' : ∀ w ∈ vx_atS own ic cls names, w.before args s' = true := fun w hw => vx_ot_at hW0 hvm.symm (hgood w (List.mem_cons_of_mem _ (List.mem_cons_of_mem _ hw))) (hat w hw)
  have hk' : (Cond.classLink own ik cls).before args s' = true := vx_ot_at hW0 hvm.symm (hgood _ List.mem_cons_self) hk
  have hini' : (Cond.initialized cls).before args s' = true := vx_ot_at hW0 hvm.symm (hgood _ (List.mem_cons_of_mem _ List.mem_cons_self)) hini
  have hU' : vx_Zq Bundle.tN "UNASSIGNED_STACK" Bundle.steD A s' s'.heap := by rw [hhp]; exact vx_Zq.moved hW0.alike (hU.kept hS.2.1)
  have hN' : vx_Zq Bundle.tN "SUPPRESSED_SENTINEL" Bundle.listD A s' s'.heap := by rw [hhp]; exact vx_Zq.moved hW0.alike (hN.kept hS.2.1)
  have h : ∀ w ∈ Bundle.ownAtoms own ic cls names, w.before args s' = true := vx_own hat' (vx_isRefq hU'.1) (vx_isRefq hN'.1) hU'.2.word hN'.2.word
  have hown' : s'.vm.findClass own = some m.cls := by rw [hvm]; exact hown
  have hins : (Cond.instantiable cls 6).before args s' = true := h _ (by simp [Bundle.ownAtoms])
  obtain ⟨vm₁, cX, kX, hfX, hkX, -, -, X₁, st1⟩ := Y.newCold hexec (own := own) (C := cls) (index := ik) (n := 6) hown' hk' hins hini'
    (g := F0 m pc ls rest) rfl (by rw [hb]; exact d0) (Nat.le_refl _) (Nat.le_refl _)
  generalize hT1 : (T.setVm vm₁).pushCell { cls := cX, slots := kX.instanceTypes.map defaultValue, vm := .none } = T1 at X₁ st1
  have hcat : (Value.ref T.heap.size).category = 1 := rfl
  have hcellA : T1.heap[T.heap.size]? = some (freshCell cX kX) := by rw [← hT1]; exact State.heap_pushCell_size _ _
  have d3' : decode c.code (pc + 3) = .ok (.dup, 1) := by rw [hb]; exact d3
  have d4' : decode c.code (pc + 4) = .ok (.ldc_w is, 3) := by rw [hb]; exact d4
  have hstr' : vk_R own is text sa s' := vk_R.warm hW0 hstr
  obtain ⟨U, hsteps, hrun, hend, hW, hsame, ce, hce, hO⟩ := X₁.ctorThrowS hexec htr (own := own) (cls := cls) (names := names) (ic := ic) hown' hcls hnames h (fun x hx => nomatch hx) hfX hkX hcellA (by rw [hhp, hT]; exact Nat.le_refl _) (msg := .ref sa) rfl
    (g := { method := m, pc := pc + 7, locals := ls, stack := .ref sa :: .ref T.heap.size :: .ref T.heap.size :: rest, locked := none }) rfl hsize rfl rfl (rest := rest) rfl
    (by rw [hb]; exact d7) (by rw [hb]; exact d10) hout hRframes (by simp only [List.map_cons, List.sum_cons, hcat]; omega) hlocks
  obtain ⟨f1, f2⟩ := vx_frame hsame
  rw [hhp] at f1 f2
  have hWs : s.WarmedH U.vm := State.WarmedH.trans hW0 hW
  have hcl : s.vm.findClass cls = some ce.cls := by
    have h9 := hO.cls
    rw [hvm] at h9
    exact h9
  have hall : s.sameButNew ({ U with vm := s.vm } : State) locs mc ms := by
    subst hA
    obtain ⟨e1, e2⟩ := hsame
    rw [State.setFrames_setFrames] at e1
    have h2 : (T.setVm s.vm).sameButNew ({ U with vm := s.vm } : State) [] (0 + 1) (0 + 6) := ⟨e1, e2⟩
    have h3 := X.same.trans h2
    rw [List.append_nil] at h3
    exact h3.mono hc hs
  refine ⟨U, ?_, .threw T.heap.size, hrun, hend, Or.inr ⟨T.heap.size, rfl, cls, ce, locs, hx U hWs.alike f1 (fun q hq => f2 q hq (fun z hz => nomatch hz)), hce, hO.vm, hcl, hWs, hall, hf⟩⟩
  refine st1 _ ?_
  show Steps p.tables e below (T1.setTop { method := m, pc := pc + 3, locals := ls, stack := .ref T.heap.size :: rest, locked := none }) _
  jvm_step X₁.here [X₁.here.top, hexec, d3', Value.category]
  exact X₁.ldcStringW hexec (own := own) (text := text) (index := is) (a := sa) hown' hstr'.1 hstr'.2
    (g := { method := m, pc := pc + 4, locals := ls, stack := .ref T.heap.size :: .ref T.heap.size :: rest, locked := none }) rfl d4' _ hsteps
end Ends
section Bodies
variable {l : Launch}
theorem vx_ofW {y : MethodName} {ws ws' : List Cond} {rm : Room} {Pc : Array Value → State → Prop} {Qc : Array Value → State → Outcome → State → Prop} {XC : String → State → State → Prop} {mc ms : Nat} {free : Addr → Prop} {cc : ByteArray} {maxL : Nat} {ret : Option FieldType}
    (hy : plainName y.cls = true) (hw : ws = Cond.code y cc maxL ret :: ws')
    (body : ∀ p e s m args below meth c s₁, BodyLoose p l y (headSpec ws rm) cc maxL ret e s m args below meth c s₁ → c.maxLocals = maxL → (∀ x ∈ c.exceptionTable.toList, False) → Pc args s →
      W p l e (headSpec ws rm).room s m args below meth c s.heap [] 0 0 (vx_MQ below Qc XC args s mc ms free) (entryFrame m args maxL)) : vx_Met l y ws rm Pc Qc XC mc ms free := by
  refine MetFree.of_bodyS (code := cc) (maxLocals := maxL) (ret := ret) hy ?_ ?_
  · intro args s m h hn
    obtain ⟨meth, c, h1, h2, h3, h4, h5, h6, -, -⟩ := Cond.code_spec hn (atoms_spec (ws := ws) h _ (by rw [hw]; exact List.mem_cons_self))
    exact ⟨meth, c, h1, h2, h3, h4, h5, h6⟩
  · intro p e s m args below meth c s₁ B hml hP _
    have hh0 : s₁.heap = s.heap := by rw [B.state]; rfl
    have ht : ∀ x ∈ c.exceptionTable.toList, False := by
      obtain ⟨meth9, c9, h1, h2, -, -, -, -, h7, -⟩ := Cond.code_spec B.named (atoms_spec (ws := ws) B.pre _ (by rw [hw]; exact List.mem_cons_self))
      cases Option.some.inj (h1.symm.trans B.method)
      cases Option.some.inj (h2.symm.trans (Stand.of_body B).code)
      intro x hx
      rw [Array.isEmpty_iff.mp h7] at hx
      cases hx
    obtain ⟨t, a1, o, b1, b2, b3⟩ := body p e s m args below meth c s₁ B hml ht hP s₁ hh0 (Stand.of_body B)
    exact ⟨t, o, a1, b1, b2, b3⟩
/-- the table of a body with handlers -/
theorem vx_table {p : Program} {x y : MethodName} {S : Spec} {cc bytes : ByteArray} {maxL maxL' : Nat} {ret ret' : Option FieldType} {e : Env} {s s₁ : State} {m : MethodId} {args : Array Value} {below : List Frame} {meth : Method} {c : Code} {hh : List (Nat × Nat × Nat × Nat)}
    (B : BodyLoose p l y S cc maxL ret e s m args below meth c s₁) (h : (Cond.codeWith y bytes maxL' ret' hh).before args s = true) : c.exceptionTable.toList = tableOf hh := by
  obtain ⟨m9, meth9, c9, hn9, h1, h2, -, -, h6, -⟩ := Cond.codeWith_spec h
  cases Option.some.inj (hn9.symm.trans B.named)
  cases Option.some.inj (h1.symm.trans B.method)
  cases Option.some.inj (h2.symm.trans (Stand.of_body B).code)
  rw [← h6, table_eq]
end Bodies
end VXA
/-! ===== END ===== -/
/-! ===== BEGIN a static call of a method with an exception table ===== -/
section VXS
variable {p : Program} {l : Launch} {e : Env} {R : Room} {s : State} {m : MethodId} {args : Array Value} {below : List Frame} {meth : Method} {c : Code} {T : State} {H : Heap} {locs : List Loc} {cells slots : Nat}
abbrev vx_CSW (R : Room) (s : State) (args : Array Value) (own : String) (index : Nat) (y : MethodName) (bytes : ByteArray) (maxL : Nat) (ret : Option FieldType) (hh : List (Nat × Nat × Nat × Nat)) (ws : List Cond) (rm : Room) (mc ms n : Nat) : Prop :=
  (rm.cells = mc ∧ rm.slots = ms ∧ rm.frames + 1 ≤ R.frames ∧ 8 + (maxL + 11) + rm.locals ≤ R.locals ∧ (∀ w ∈ ws, ∀ (a' : Array Value) (U : State), s.WarmedH U.vm → w.before a' U = true) ∧ Cond.codeWith y bytes maxL ret hh ∈ ws) ∧
  (Cond.codeWith y bytes maxL ret hh).before args s = true ∧ (Cond.initialized y.cls).before args s = true ∧ (y.cls ≠ "java/lang/invoke/MethodHandle" ∧ y.cls ≠ "java/lang/invoke/VarHandle") ∧
  (∀ sig, parseMethodDescriptor y.desc = some sig → n = sig.parameters.length) ∧ (Cond.methodLink own index y).before args s = true ∧ (Cond.static y).before args s = true
theorem vx_cwSW {own : String} {index maxL mc ms : Nat} {y : MethodName} {bytes : ByteArray} {ret : Option FieldType} {hh : List (Nat × Nat × Nat × Nat)} {Ts ws ws' : List Cond} {rm : Room} (n : Nat) (ht : ∀ w ∈ Ts, w.before args s = true) (hT : GoodIn Ts (va_wsS own index y ws)) (hw : ws = Cond.codeWith y bytes maxL ret hh :: ws') (hrc : rm.cells = mc) (hrs : rm.slots = ms)
    (hd : y.cls ≠ "java/lang/invoke/MethodHandle" ∧ y.cls ≠ "java/lang/invoke/VarHandle" ∧ (parseMethodDescriptor y.desc).map (fun d => d.parameters.length) = some n) (hR : rm.frames + 1 ≤ R.frames ∧ 8 + (maxL + 11) + rm.locals ≤ R.locals) :
    vx_CSW R s args own index y bytes maxL ret hh ws rm mc ms n := by
  have ok : ∀ w ∈ va_wsS own index y ws, w.before args s = true := fun w h => ht w (hT w h).1
  have hG : GoodIn Ts ws := fun w h => hT w (by unfold va_wsS; exact List.mem_append_right _ h)
  have hc : Cond.codeWith y bytes maxL ret hh ∈ ws := by rw [hw]; exact List.mem_cons_self
  refine ⟨⟨hrc, hrs, hR.1, hR.2, pay_in ht hG, hc⟩, ht _ (hG _ hc).1, ok _ (by simp [va_wsS]), ⟨hd.1, hd.2.1⟩, fun sig h => ?_, ok _ (by simp [va_wsS]), ok _ (by simp [va_wsS])⟩
  have h2 := hd.2.2
  rw [h] at h2
  exact (Option.some.inj h2).symm
theorem vx_callSW (X : Stand p l e R s m args below meth c T locs cells slots) (hexec : p.tables.exec = Jvm.exec) {own : String} {index : Nat} {y : MethodName} {bytes : ByteArray} {maxL : Nat} {ret : Option FieldType} {hh : List (Nat × Nat × Nat × Nat)}
    (hown : s.vm.findClass own = some m.cls) (hlink : (Cond.methodLink own index y).before args s = true) (hstat : (Cond.static y).before args s = true) (hinit : (Cond.initialized y.cls).before args s = true)
    (hcode : (Cond.codeWith y bytes maxL ret hh).before args s = true) (hy : y.cls ≠ "java/lang/invoke/MethodHandle" ∧ y.cls ≠ "java/lang/invoke/VarHandle")
    {W9 : Nat} {Pre : Pt → Array Value → Prop} {Post : Pt → Array Value → Option Value → Pt → Prop} (hK : Back l R p e below s args y 3 W9 Pre Post)
    {g : JFrame} (hg : g.method = m) (hsize : g.locals.size = c.maxLocals) {argsL rest : List Value} (hlen : ∀ sig, parseMethodDescriptor y.desc = some sig → argsL.length = sig.parameters.length)
    (hstack : g.stack = argsL.reverse ++ rest) (hW : 2 * g.monitorRoom + (rest.map fun v => v.category).sum ≤ W9) (hdg : decode c.code g.pc = .ok (.invokestatic index, 3))
    (hpre : ∀ vm₁, s.WarmedH vm₁ → Pre ⟨T.setVm vm₁, locs, cells, slots⟩ argsL.toArray) :
    ∃ (v : Option Value) (vm₁ : Vm) (B : Pt), s.WarmedH vm₁ ∧ Stand p l e R s m args below meth c B.U B.locs B.cells B.slots ∧ Post ⟨T.setVm vm₁, locs, cells, slots⟩ argsL.toArray v B ∧
      ∀ target, Steps p.tables e below (B.U.setTop { g with pc := g.pc + 3, stack := v.toList ++ rest }) target → Steps p.tables e below (T.setTop g) target := by
  obtain ⟨mk, methM, cM, hnamed, hmethM, -, -, -, -, -, -, hsigM⟩ := Cond.codeWith_spec hcode
  have hstatic : methM.isStatic = true := Cond.static_spec hnamed hmethM hstat
  obtain ⟨kP, hkP, -⟩ := className_of_methodNamed hnamed
  have hinitP : kP.init = .initialized := Cond.initialized_spec (findClass_of_methodNamed hnamed) hkP hinit
  obtain ⟨vm₁, X₁, hstep₁⟩ := X.invokestatic hexec hown hlink hnamed hmethM hstatic hkP hinitP hy (g := g) hg (argsL := argsL) (rest := rest) (hlen _ hsigM) hstack hdg
  obtain ⟨v, B, X', hpost, hsteps⟩ := hK m meth c ⟨T.setVm vm₁, locs, cells, slots⟩ { g with stack := rest } (.invokestatic index) mk argsL.toArray X₁ hg hsize hdg hW (X₁.named hnamed) (hpre vm₁ X₁.warmed)
  exact ⟨v, vm₁, B, X₁.warmed, X', hpost, fun target h => hstep₁ _ fun acts => by rw [doInvoke_state]; exact hsteps.trans h⟩
theorem vx_runSW {y : MethodName} {bytes cc : ByteArray} {maxL nL mc ms n index : Nat} {ret : Option FieldType} {hh : List (Nat × Nat × Nat × Nat)} {ws : List Cond} {rm : Room} {Pc : Array Value → State → Prop} {Qc : Array Value → State → Outcome → State → Prop} {free : Addr → Prop} {Ts : List Cond} {own : String} {As rest : List Value} {g : JFrame}
    (S : CallFix p m c cc nL s args Ts own) (hM : Met l y ws rm Pc Qc mc ms free) (cw : vx_CSW R s args own index y bytes maxL ret hh ws rm mc ms n) (hp : PreS s H Pc As)
    (hg : g.method = m) (hn : As.length = n) (hsize : g.locals.size = nL) (hstack : g.stack = As.reverse ++ rest) (hW : 2 * g.monitorRoom + (rest.map fun v => v.category).sum ≤ 8) (hdg : decode cc g.pc = .ok (.invokestatic index, 3)) (hf : cells + mc ≤ R.cells ∧ slots + ms ≤ R.slots) :
    va_Run p l e R s m args below meth c H locs cells slots mc ms g rest (Qc As.toArray) (free) := by
  obtain ⟨⟨hrc, hrs, hfr, hlo, hws, hcw⟩, hcode, hini, hy, hlen, hl, hstt⟩ := cw
  have hK : Back l R p e below s args y 3 8 (PreOf R mc ms Pc) (PostOf Qc mc ms free) := va_backW (hh := hh) (bytes := bytes) (maxL := maxL) (ret := ret) hM hp.1 hrc hrs hfr hlo hws hcw (fun a' U hW => word_at hW (Or.inl (by first | rfl | simp [Cond.onTables, Cond.keeps, Cond.steady])) hini)
  obtain ⟨hx, hb, hml, ho, -⟩ := S
  intro T hT X
  obtain ⟨v, vm₁, ⟨U', l2, c2, s2⟩, hW₁, X', ⟨g', mk, t, L, e1, e2, hq, h1, hL, h2, h3⟩, st⟩ := vx_callSW X hx (hh := hh) (bytes := bytes) (maxL := maxL) (ret := ret) ho hl hstt hini hcode hy hK hg (hsize.trans hml.symm) (argsL := As) (rest := rest) (fun sig h => hn.trans (hlen sig h)) hstack hW (by rw [hb]; exact hdg)
    (fun vm₁ hW₁ => ⟨hf.1, hf.2, hp.2 (T.setVm vm₁) hT hW₁⟩)
  dsimp only [Pt.U, Pt.locs, Pt.cells, Pt.slots] at X' e1 e2 h1 h2 h3 st
  subst h1; subst h2; subst h3
  exact ⟨v, (T.setVm vm₁).calling g' mk As.toArray, t, U', L, hT, X', hL, e1, e2, hq, st⟩
/-- not caught here, past rows that name other classes: it goes on to the caller -/
theorem vx_outP {p : Program} {l : Launch} {e : Env} {R : Room} {s : State} {m : MethodId} {args : Array Value} {below : List Frame} {meth : Method} {c : Code} {H : Heap} {locs : List Loc} {cells slots : Nat} {free : Addr → Prop} {ls : Array Slot} {rest : List Value} {Qc : Array Value → State → Outcome → State → Prop} {XC : String → State → State → Prop}
    {pc : Nat} {own E : String} {ce : Cell} {q : Addr} {mc ms : Nat} (hown : s.vm.findClass own = some m.cls) (hlocks : meth.locks = false)
    (hpass : ∀ z ∈ c.exceptionTable.toList, covers z pc = false ∨ (z.catchType ≠ 0 ∧ ∃ nm : String, (Cond.classLink own z.catchType nm).before args s = true ∧ va_Nc E nm s)) (hcell : H[q]? = some ce) (hv : ce.vm = .none) (hcl : s.vm.findClass E = some ce.cls)
    (hx : ∀ t : State, t.heap = H → s.vm.Alike t.vm → XC E s t) (hf : ∀ z ∈ locs, free z.base) (hc : cells ≤ mc) (hs : slots ≤ ms) :
    vx_W p l e R s m args below meth c H locs cells slots (vx_MQ below Qc XC args s mc ms free) (F0 m pc ls rest) q := by
  intro T hT X
  have hpl : e.platform.magicAccessors = ({} : Platform).magicAccessors := by rw [X.admits.platform]
  obtain ⟨vm', hW', X', st⟩ := X.outThrough hlocks q (g := F0 m pc ls rest) rfl rfl rfl (cell := ce) (by rw [hT]; exact hcell) (by rw [hv]; rfl)
    (by obtain ⟨k9, h9, -⟩ := Vm.findClass_spec hcl; exact ⟨k9, h9⟩) (fun z hz => by
      rcases hpass z hz with h | ⟨hz0, nm, hl1, hn1⟩
      · exact Or.inl h
      · obtain ⟨c6, hc6, hcl6⟩ := Cond.classLink_spec hown hl1 e.platform hpl
        obtain ⟨a8, b8, h1, h2, h3⟩ := hn1
        cases Option.some.inj (h1.symm.trans hcl)
        cases Option.some.inj (h2.symm.trans hc6)
        exact Or.inr ⟨hz0, _, hcl6, h3⟩)
  obtain ⟨g₀, hfr⟩ := X'.frames_eq
  have hcell9 : ((T.setVm vm').setFrames (.throwing q :: below)).heap[q]? = some ce := by
    show T.heap[q]? = some ce
    rw [hT]; exact hcell
  have hend : Ended ((T.setVm vm').setFrames (.throwing q :: below)) below (.threw q) := State.frames_setFrames _ (State.cur_lt_of_frames hfr)
  refine ⟨(T.setVm vm').setFrames (.throwing q :: below), ?_, .threw q, X'.here.running, hend, Or.inr ⟨q, rfl, E, ce, locs, hx _ hT (X'.ends _).1.alike, hcell9, hv, hcl, (X'.ends _).1, (X'.ends _).2.mono hc hs, hf⟩⟩
  rw [X.pushThrowing_eq]
  exact st
/-- a thing of a world lies in the heap -/
theorem vx_lt {D : va_G} {cl : List vw_C} {ws : va_W} {H1 : Heap} (h : va_P D cl ws H1) {k : Nat} {q : Nat × va_E} (hk : ws[k]? = some q) : q.1 < H1.size := (h k q hk).lt
end VXS
/-! ===== END ===== -/
/-! ===== BEGIN methods with a table of their own: called by a name, returning or throwing ===== -/
section VXH
/-! vx_backW, vx_callVX, vx_callSX, vx_callVW, vx_runVW, vx_runVX, vx_runSX, vx_ofWH follow the same proofs as their sisters above (Free/Laws.lean, Shelf42/LK1.lean); vx_outP calls Shelf42/NT130.lean (outThrough). -/
section
variable {l : Launch} {R : Room} {p : Program} {e : Env} {below : List Frame} {s : State} {sargs : Array Value} {y : MethodName} {len W9 : Nat}
theorem vx_backW {ws : List Cond} {rm : Room} {Pc : Array Value → State → Prop} {Qc : Array Value → State → Outcome → State → Prop} {XC : String → State → State → Prop} {mc ms : Nat} {free : Addr → Prop} {bytes : ByteArray} {maxL : Nat} {ret : Option FieldType} {hh : List (Nat × Nat × Nat × Nat)}
    (hM : vx_Met l y ws rm Pc Qc XC mc ms free) (hblind : FrameBlind Pc) (hrc : rm.cells = mc) (hrs : rm.slots = ms)
    (hframes : rm.frames + 1 ≤ R.frames) (hlocals : W9 + (maxL + 11) + rm.locals ≤ R.locals)
    (hws : ∀ w ∈ ws, ∀ a' U, s.WarmedH U.vm → w.before a' U = true) (hcode : Cond.codeWith y bytes maxL ret hh ∈ ws) (hinit : ∀ a' U, s.WarmedH U.vm → (Cond.initialized y.cls).before a' U = true) :
    vx_Back l R p e below s sargs y len W9 (PreOf R mc ms Pc) (PostOf Qc mc ms free) (vx_Post XC mc ms free) := by
  intro m meth c A g ig mk a X hg hsize hdg hW hn hp
  have h1 : (headSpec ws rm).pre.before a A.U = true := atoms_intro fun w hw => hws w hw _ _ X.warmed
  have h2 : (Cond.codeWith y bytes maxL ret hh).before a A.U = true := hws _ hcode _ _ X.warmed
  have h3 : (Cond.initialized y.cls).before a A.U = true := hinit _ _ X.warmed
  have h4 : A.cells + (headSpec ws rm).room.cells ≤ R.cells := by rw [show (headSpec ws rm).room.cells = mc from hrc]; exact hp.1
  have h5 : A.slots + (headSpec ws rm).room.slots ≤ R.slots := by rw [show (headSpec ws rm).room.slots = ms from hrs]; exact hp.2.1
  have hPc : Pc a (A.U.calling g mk a) := hblind _ _ _ _ hp.2.2
  obtain ⟨U, Ls, c0, s0⟩ := A
  dsimp only [Pt.U, Pt.locs, Pt.cells, Pt.slots] at h1 h2 h3 h4 h5 X hn hPc ⊢
  obtain ⟨m9, methY, cY, hn9, hmY, hcY, -, hlY, -⟩ := Cond.codeWith_spec h2
  cases Option.some.inj (hn9.symm.trans hn)
  obtain ⟨kY, hkY, -⟩ := className_of_methodNamed hn
  have hinitY : kY.init = .initialized := Cond.initialized_spec (findClass_of_methodNamed hn) hkY h3
  have h : At U g.method c below := by rw [hg]; exact X.here
  have hlocals9 : W9 + (maxL + 11) + (headSpec ws rm).room.locals ≤ R.locals := hlocals
  have happ : (headSpec ws rm).appliesLoose y e.platform (U.calling g mk a) = true :=
    Spec.appliesLoose_calling (g := g) h hdg hn hkY hinitY
      (X.room_calling (g := g) (R' := (headSpec ws rm).room) hsize hmY hcY hframes (by rw [hlY]; omega) h4 h5) h1
  obtain ⟨mid, hmid⟩ := h.above
  have hfr : (U.setTop g).frames = (.java g :: mid) ++ below := by rw [State.frames_setTop' g h.top, hmid]; rfl
  obtain ⟨o, s₂, hsteps, -, hend, hq⟩ := Steps.callFree hM p X.admits X.cas X.clock (acts := []) hfr happ hPc trivial
  have hq' : vx_Q Qc XC mc ms free a (U.calling g mk a) o s₂ := hq
  rw [State.frames_setTop' g h.top] at hend
  obtain ⟨g₀, hg0⟩ := Option.isSome_iff_exists.mp h.top
  obtain ⟨r, hr⟩ := State.topJava?_eq_some.mp hg0
  have hr' : (({ U with heap := s₂.heap, slotsUsed := s₂.slotsUsed } : State).setVm s₂.vm).frames = .java g₀ :: r := hr
  rcases hq' with ⟨hqc, L, hfe, hL⟩ | ⟨q, rfl, E, ce, L, hx, hce, hcv, hcl, hW₂, hsm, hL⟩
  · obtain ⟨⟨v, rfl⟩, hW₂, e2, q2, q3, q4, q5, q6⟩ := id hfe
    have e3 : s₂ = ({ (U.calling g mk a).setFrames s₂.frames with heap := s₂.heap, slotsUsed := s₂.slotsUsed } : State).setVm s₂.vm := by
      have : s₂ = ({ s₂ with vm := (U.calling g mk a).vm } : State).setVm s₂.vm := rfl
      rw [e2] at this
      exact this
    obtain ⟨c₂, i₂, len₂, hc₂, hd₂, hf₂⟩ := hend
    have hW' : U.WarmedH s₂.vm := hW₂
    have hcc : c₂ = c := by
      have h1 : s₂.code? g.method = U.code? g.method := by
        rw [State.code?_eq, State.code?_eq, hW'.alike.method?]
      exact Option.some.inj (hc₂.symm.trans (h1.trans h.code))
    subst hcc
    have hlen : len₂ = len := by rw [hdg] at hd₂; cases hd₂; rfl
    subst hlen
    have hs₂ : s₂ = (({ U with heap := s₂.heap, slotsUsed := s₂.slotsUsed } : State).setVm s₂.vm).setTop { g with pc := g.pc + len₂, stack := v.toList ++ g.stack } := by
      refine e3.trans ?_
      rw [hf₂, State.calling_eq h.top, State.setFrames_setFrames, State.setTop_of_frames _ hr', hr]
      rfl
    have hsame : U.sameButNew ({ U with heap := s₂.heap, slotsUsed := s₂.slotsUsed } : State) L mc ms := by
      refine ⟨?_, q2, q3, q4, q5, q6⟩
      obtain ⟨t, ht, -⟩ := State.frames_cons hr
      show ({ U with heap := s₂.heap, slotsUsed := s₂.slotsUsed } : State) = { U.setFrames U.frames with heap := s₂.heap, slotsUsed := s₂.slotsUsed }
      rw [State.setFrames_self ht]
    subst hg
    refine Or.inl ⟨v, ⟨(({ U with heap := s₂.heap, slotsUsed := s₂.slotsUsed } : State).setVm s₂.vm), Ls ++ L, c0 + mc, s0 + ms⟩,
      ⟨X.admits, X.cas, X.clock, X.frames, X.room, X.hears, X.method, X.code, (X.here.setHeapUsed s₂.heap s₂.slotsUsed).setVm hW'.alike, X.tail, State.WarmedH.trans X.warmed hW', X.limits, X.bytes, X.same.trans (hsame.setVm s.vm)⟩,
      ⟨g, mk, s₂, L, rfl, rfl, hqc, rfl, hL, rfl, rfl⟩, ?_⟩
    show Steps p.tables e below _ ((({ U with heap := s₂.heap, slotsUsed := s₂.slotsUsed } : State).setVm s₂.vm).setTop { g with pc := g.pc + len₂, stack := v.toList ++ g.stack })
    rw [← hs₂]
    exact hsteps
  · obtain ⟨e2, q2, q3, q4, q5, q6⟩ := id hsm
    have e3 : s₂ = ({ (U.calling g mk a).setFrames s₂.frames with heap := s₂.heap, slotsUsed := s₂.slotsUsed } : State).setVm s₂.vm := by
      have : s₂ = ({ s₂ with vm := (U.calling g mk a).vm } : State).setVm s₂.vm := rfl
      rw [e2] at this
      exact this
    have hf₂ : s₂.frames = .throwing q :: .java g :: U.frames.tail := hend
    have hW' : U.WarmedH s₂.vm := hW₂
    have hs₂ : s₂ = ((({ U with heap := s₂.heap, slotsUsed := s₂.slotsUsed } : State).setVm s₂.vm).setTop g).pushFrame (.throwing q) := by
      refine e3.trans ?_
      rw [hf₂, State.calling_eq h.top, State.setFrames_setFrames, State.pushFrame, State.frames_setTop _ hr', State.setTop_of_frames _ hr', State.setFrames_setFrames, hr]
      rfl
    have hsame : U.sameButNew ({ U with heap := s₂.heap, slotsUsed := s₂.slotsUsed } : State) L mc ms := by
      refine ⟨?_, q2, q3, q4, q5, q6⟩
      obtain ⟨t, ht, -⟩ := State.frames_cons hr
      show ({ U with heap := s₂.heap, slotsUsed := s₂.slotsUsed } : State) = { U.setFrames U.frames with heap := s₂.heap, slotsUsed := s₂.slotsUsed }
      rw [State.setFrames_self ht]
    subst hg
    refine Or.inr ⟨q, ⟨(({ U with heap := s₂.heap, slotsUsed := s₂.slotsUsed } : State).setVm s₂.vm), Ls ++ L, c0 + mc, s0 + ms⟩,
      ⟨X.admits, X.cas, X.clock, X.frames, X.room, X.hears, X.method, X.code, (X.here.setHeapUsed s₂.heap s₂.slotsUsed).setVm hW'.alike, X.tail, State.WarmedH.trans X.warmed hW', X.limits, X.bytes, X.same.trans (hsame.setVm s.vm)⟩,
      ⟨g, mk, s₂, L, E, ce, rfl, rfl, hx, hce, hcv, hcl, rfl, hL, rfl, rfl⟩, ?_⟩
    show Steps p.tables e below _ (((({ U with heap := s₂.heap, slotsUsed := s₂.slotsUsed } : State).setVm s₂.vm).setTop g).pushFrame (.throwing q))
    rw [← hs₂]
    exact hsteps
end
variable {p : Program} {l : Launch} {e : Env} {R : Room} {s : State} {m : MethodId} {args : Array Value} {below : List Frame} {meth : Method} {c : Code} {T : State} {H : Heap} {locs : List Loc} {cells slots : Nat}
theorem vx_callVX (X : Stand p l e R s m args below meth c T locs cells slots) (hexec : p.tables.exec = Jvm.exec) {own C : String} {index : Nat} {y : MethodName} {bytes : ByteArray} {maxL : Nat} {ret : Option FieldType} {hh : List (Nat × Nat × Nat × Nat)}
    (hown : s.vm.findClass own = some m.cls) (hlink : (Cond.methodLink own index y).before args s = true) (hinst : (Cond.instanceMethod y).before args s = true) (hsel : (Cond.selects C y y).before args s = true)
    (hcode : (Cond.codeWith y bytes maxL ret hh).before args s = true) (hy : y.cls ≠ "java/lang/invoke/MethodHandle" ∧ y.cls ≠ "java/lang/invoke/VarHandle")
    {W9 : Nat} {Pre : Pt → Array Value → Prop} {Post : Pt → Array Value → Option Value → Pt → Prop} {PostX : Pt → Array Value → Addr → Pt → Prop} (hK : vx_Back l R p e below s args y 3 W9 Pre Post PostX)
    {b : Addr} {cellB : Cell} (hcell : T.heap[b]? = some cellB) (hobj : cellB.vm.isStatics = false) (hcls : s.vm.findClass C = some cellB.cls)
    {g : JFrame} (hg : g.method = m) (hsize : g.locals.size = c.maxLocals) {argsL rest : List Value} (hlen : ∀ sig, parseMethodDescriptor y.desc = some sig → argsL.length = sig.parameters.length)
    (hstack : g.stack = argsL.reverse ++ .ref b :: rest) (hW : 2 * g.monitorRoom + (rest.map fun v => v.category).sum ≤ W9) (hdg : decode c.code g.pc = .ok (.invokevirtual index, 3))
    (hpre : ∀ vm₁, s.WarmedH vm₁ → Pre ⟨T.setVm vm₁, locs, cells, slots⟩ (Value.ref b :: argsL).toArray) :
    (∃ (v : Option Value) (vm₁ : Vm) (B : Pt), s.WarmedH vm₁ ∧ Stand p l e R s m args below meth c B.U B.locs B.cells B.slots ∧ Post ⟨T.setVm vm₁, locs, cells, slots⟩ (Value.ref b :: argsL).toArray v B ∧
      ∀ target, Steps p.tables e below (B.U.setTop { g with pc := g.pc + 3, stack := v.toList ++ rest }) target → Steps p.tables e below (T.setTop g) target) ∨
    (∃ (q : Addr) (vm₁ : Vm) (B : Pt), s.WarmedH vm₁ ∧ Stand p l e R s m args below meth c B.U B.locs B.cells B.slots ∧ PostX ⟨T.setVm vm₁, locs, cells, slots⟩ (Value.ref b :: argsL).toArray q B ∧
      Steps p.tables e below (T.setTop g) ((B.U.setTop { g with stack := rest }).pushFrame (.throwing q))) := by
  obtain ⟨mk, methM, hnamed, hmethM, hstM, habM⟩ := Cond.instanceMethod_spec hinst
  obtain ⟨m8, methM', cM, hn8, hmethM', -, -, -, -, -, -, hsigM⟩ := Cond.codeWith_spec hcode
  cases Option.some.inj (hn8.symm.trans hnamed)
  cases hmethM.symm.trans hmethM'
  obtain ⟨c2, r2, m2, q1, q2, q3, q4, kP, hkP, hkPi⟩ := Cond.selects_spec hsel
  cases hcls.symm.trans q1
  cases (State.methodFound?_of_named hnamed hy).symm.trans q2
  cases hnamed.symm.trans q3
  have hselP : selectMethod e.platform s.vm cellB.cls mk = .method mk := by rw [Launch.admits_selectMethod X.admits]; exact q4
  obtain ⟨vm₁, X₁, hstep₁⟩ := X.invokevirtual hexec hown hlink hnamed hmethM hstM hkP hkPi hy (a := b) (cell := cellB) hcell
    (fun z h => by rw [h] at hobj; cases hobj) hselP hmethM habM hkP hkPi (g := g) hg (argsL := argsL) (rest := rest) (hlen _ hsigM) hstack hdg
  rcases hK m meth c ⟨T.setVm vm₁, locs, cells, slots⟩ { g with stack := rest } (.invokevirtual index) mk (Value.ref b :: argsL).toArray X₁ hg hsize hdg hW (X₁.named hnamed) (hpre vm₁ X₁.warmed) with ⟨v, B, X', hpost, hsteps⟩ | ⟨q, B, X', hpost, hsteps⟩
  · exact Or.inl ⟨v, vm₁, B, X₁.warmed, X', hpost, fun target h => hstep₁ _ fun acts => by rw [doInvoke_state]; exact hsteps.trans h⟩
  · exact Or.inr ⟨q, vm₁, B, X₁.warmed, X', hpost, hstep₁ _ fun acts => by rw [doInvoke_state]; exact hsteps⟩
theorem vx_callSX (X : Stand p l e R s m args below meth c T locs cells slots) (hexec : p.tables.exec = Jvm.exec) {own : String} {index : Nat} {y : MethodName} {bytes : ByteArray} {maxL : Nat} {ret : Option FieldType} {hh : List (Nat × Nat × Nat × Nat)}
    (hown : s.vm.findClass own = some m.cls) (hlink : (Cond.methodLink own index y).before args s = true) (hstat : (Cond.static y).before args s = true) (hinit : (Cond.initialized y.cls).before args s = true)
    (hcode : (Cond.codeWith y bytes maxL ret hh).before args s = true) (hy : y.cls ≠ "java/lang/invoke/MethodHandle" ∧ y.cls ≠ "java/lang/invoke/VarHandle")
    {W9 : Nat} {Pre : Pt → Array Value → Prop} {Post : Pt → Array Value → Option Value → Pt → Prop} {PostX : Pt → Array Value → Addr → Pt → Prop} (hK : vx_Back l R p e below s args y 3 W9 Pre Post PostX)
    {g : JFrame} (hg : g.method = m) (hsize : g.locals.size = c.maxLocals) {argsL rest : List Value} (hlen : ∀ sig, parseMethodDescriptor y.desc = some sig → argsL.length = sig.parameters.length)
    (hstack : g.stack = argsL.reverse ++ rest) (hW : 2 * g.monitorRoom + (rest.map fun v => v.category).sum ≤ W9) (hdg : decode c.code g.pc = .ok (.invokestatic index, 3))
    (hpre : ∀ vm₁, s.WarmedH vm₁ → Pre ⟨T.setVm vm₁, locs, cells, slots⟩ argsL.toArray) :
    (∃ (v : Option Value) (vm₁ : Vm) (B : Pt), s.WarmedH vm₁ ∧ Stand p l e R s m args below meth c B.U B.locs B.cells B.slots ∧ Post ⟨T.setVm vm₁, locs, cells, slots⟩ argsL.toArray v B ∧
      ∀ target, Steps p.tables e below (B.U.setTop { g with pc := g.pc + 3, stack := v.toList ++ rest }) target → Steps p.tables e below (T.setTop g) target) ∨
    (∃ (q : Addr) (vm₁ : Vm) (B : Pt), s.WarmedH vm₁ ∧ Stand p l e R s m args below meth c B.U B.locs B.cells B.slots ∧ PostX ⟨T.setVm vm₁, locs, cells, slots⟩ argsL.toArray q B ∧
      Steps p.tables e below (T.setTop g) ((B.U.setTop { g with stack := rest }).pushFrame (.throwing q))) := by
  obtain ⟨mk, methM, cM, hnamed, hmethM, -, -, -, -, -, -, hsigM⟩ := Cond.codeWith_spec hcode
  have hstatic : methM.isStatic = true := Cond.static_spec hnamed hmethM hstat
  obtain ⟨kP, hkP, -⟩ := className_of_methodNamed hnamed
  have hinitP : kP.init = .initialized := Cond.initialized_spec (findClass_of_methodNamed hnamed) hkP hinit
  obtain ⟨vm₁, X₁, hstep₁⟩ := X.invokestatic hexec hown hlink hnamed hmethM hstatic hkP hinitP hy (g := g) hg (argsL := argsL) (rest := rest) (hlen _ hsigM) hstack hdg
  rcases hK m meth c ⟨T.setVm vm₁, locs, cells, slots⟩ { g with stack := rest } (.invokestatic index) mk argsL.toArray X₁ hg hsize hdg hW (X₁.named hnamed) (hpre vm₁ X₁.warmed) with ⟨v, B, X', hpost, hsteps⟩ | ⟨q, B, X', hpost, hsteps⟩
  · exact Or.inl ⟨v, vm₁, B, X₁.warmed, X', hpost, fun target h => hstep₁ _ fun acts => by rw [doInvoke_state]; exact hsteps.trans h⟩
  · exact Or.inr ⟨q, vm₁, B, X₁.warmed, X', hpost, hstep₁ _ fun acts => by rw [doInvoke_state]; exact hsteps⟩
theorem vx_callVW (X : Stand p l e R s m args below meth c T locs cells slots) (hexec : p.tables.exec = Jvm.exec) {own C : String} {index : Nat} {y : MethodName} {bytes : ByteArray} {maxL : Nat} {ret : Option FieldType} {hh : List (Nat × Nat × Nat × Nat)}
    (hown : s.vm.findClass own = some m.cls) (hlink : (Cond.methodLink own index y).before args s = true) (hinst : (Cond.instanceMethod y).before args s = true) (hsel : (Cond.selects C y y).before args s = true)
    (hcode : (Cond.codeWith y bytes maxL ret hh).before args s = true) (hy : y.cls ≠ "java/lang/invoke/MethodHandle" ∧ y.cls ≠ "java/lang/invoke/VarHandle")
    {W9 : Nat} {Pre : Pt → Array Value → Prop} {Post : Pt → Array Value → Option Value → Pt → Prop} (hK : Back l R p e below s args y 3 W9 Pre Post)
    {b : Addr} {cellB : Cell} (hcell : T.heap[b]? = some cellB) (hobj : cellB.vm.isStatics = false) (hcls : s.vm.findClass C = some cellB.cls)
    {g : JFrame} (hg : g.method = m) (hsize : g.locals.size = c.maxLocals) {argsL rest : List Value} (hlen : ∀ sig, parseMethodDescriptor y.desc = some sig → argsL.length = sig.parameters.length)
    (hstack : g.stack = argsL.reverse ++ .ref b :: rest) (hW : 2 * g.monitorRoom + (rest.map fun v => v.category).sum ≤ W9) (hdg : decode c.code g.pc = .ok (.invokevirtual index, 3))
    (hpre : ∀ vm₁, s.WarmedH vm₁ → Pre ⟨T.setVm vm₁, locs, cells, slots⟩ (Value.ref b :: argsL).toArray) :
    ∃ (v : Option Value) (vm₁ : Vm) (B : Pt), s.WarmedH vm₁ ∧ Stand p l e R s m args below meth c B.U B.locs B.cells B.slots ∧ Post ⟨T.setVm vm₁, locs, cells, slots⟩ (Value.ref b :: argsL).toArray v B ∧
      ∀ target, Steps p.tables e below (B.U.setTop { g with pc := g.pc + 3, stack := v.toList ++ rest }) target → Steps p.tables e below (T.setTop g) target := by
  obtain ⟨mk, methM, hnamed, hmethM, hstM, habM⟩ := Cond.instanceMethod_spec hinst
  obtain ⟨m8, methM', cM, hn8, hmethM', -, -, -, -, -, -, hsigM⟩ := Cond.codeWith_spec hcode
  cases Option.some.inj (hn8.symm.trans hnamed)
  cases hmethM.symm.trans hmethM'
  obtain ⟨c2, r2, m2, q1, q2, q3, q4, kP, hkP, hkPi⟩ := Cond.selects_spec hsel
  cases hcls.symm.trans q1
  cases (State.methodFound?_of_named hnamed hy).symm.trans q2
  cases hnamed.symm.trans q3
  have hselP : selectMethod e.platform s.vm cellB.cls mk = .method mk := by rw [Launch.admits_selectMethod X.admits]; exact q4
  obtain ⟨vm₁, X₁, hstep₁⟩ := X.invokevirtual hexec hown hlink hnamed hmethM hstM hkP hkPi hy (a := b) (cell := cellB) hcell
    (fun z h => by rw [h] at hobj; cases hobj) hselP hmethM habM hkP hkPi (g := g) hg (argsL := argsL) (rest := rest) (hlen _ hsigM) hstack hdg
  obtain ⟨v, B, X', hpost, hsteps⟩ := hK m meth c ⟨T.setVm vm₁, locs, cells, slots⟩ { g with stack := rest } (.invokevirtual index) mk (Value.ref b :: argsL).toArray X₁ hg hsize hdg hW (X₁.named hnamed) (hpre vm₁ X₁.warmed)
  exact ⟨v, vm₁, B, X₁.warmed, X', hpost, fun target h => hstep₁ _ fun acts => by rw [doInvoke_state]; exact hsteps.trans h⟩
abbrev vx_CVW (R : Room) (s : State) (args : Array Value) (own C : String) (index : Nat) (y : MethodName) (bytes : ByteArray) (maxL : Nat) (ret : Option FieldType) (hh : List (Nat × Nat × Nat × Nat)) (ws : List Cond) (rm : Room) (mc ms n : Nat) : Prop :=
  (rm.cells = mc ∧ rm.slots = ms ∧ rm.frames + 1 ≤ R.frames ∧ 8 + (maxL + 11) + rm.locals ≤ R.locals ∧ (∀ w ∈ ws, ∀ (a' : Array Value) (U : State), s.WarmedH U.vm → w.before a' U = true) ∧ Cond.codeWith y bytes maxL ret hh ∈ ws) ∧
  (Cond.codeWith y bytes maxL ret hh).before args s = true ∧ (Cond.initialized y.cls).before args s = true ∧ (y.cls ≠ "java/lang/invoke/MethodHandle" ∧ y.cls ≠ "java/lang/invoke/VarHandle") ∧
  (∀ sig, parseMethodDescriptor y.desc = some sig → n = sig.parameters.length) ∧ (Cond.methodLink own index y).before args s = true ∧ (Cond.instanceMethod y).before args s = true ∧ (Cond.selects C y y).before args s = true
theorem vx_cwVW {own C : String} {index maxL mc ms : Nat} {y : MethodName} {bytes : ByteArray} {ret : Option FieldType} {hh : List (Nat × Nat × Nat × Nat)} {Ts ws ws' : List Cond} {rm : Room} (n : Nat) (ht : ∀ w ∈ Ts, w.before args s = true) (hT : GoodIn Ts (wsV own index C y ws)) (hw : ws = Cond.codeWith y bytes maxL ret hh :: ws') (hrc : rm.cells = mc) (hrs : rm.slots = ms)
    (hd : y.cls = C ∧ y.cls ≠ "java/lang/invoke/MethodHandle" ∧ y.cls ≠ "java/lang/invoke/VarHandle" ∧ (parseMethodDescriptor y.desc).map (fun d => d.parameters.length) = some n) (hR : rm.frames + 1 ≤ R.frames ∧ 8 + (maxL + 11) + rm.locals ≤ R.locals) :
    vx_CVW R s args own C index y bytes maxL ret hh ws rm mc ms n := by
  obtain ⟨hC, hd⟩ := hd
  subst hC
  have ok : ∀ w ∈ wsV own index y.cls y ws, w.before args s = true := fun w h => ht w (hT w h).1
  have hG : GoodIn Ts ws := fun w h => hT w (by unfold wsV; exact List.mem_append_right _ h)
  have hc : Cond.codeWith y bytes maxL ret hh ∈ ws := by rw [hw]; exact List.mem_cons_self
  refine ⟨⟨hrc, hrs, hR.1, hR.2, pay_in ht hG, hc⟩, ht _ (hG _ hc).1, ok _ (by simp [wsV]), ⟨hd.1, hd.2.1⟩, fun sig h => ?_, ok _ (by simp [wsV]), ok _ (by simp [wsV]), ok _ (by simp [wsV])⟩
  have h2 := hd.2.2
  rw [h] at h2
  exact (Option.some.inj h2).symm
theorem vx_runVW {y : MethodName} {bytes cc : ByteArray} {maxL nL mc ms n index : Nat} {ret : Option FieldType} {hh : List (Nat × Nat × Nat × Nat)} {ws : List Cond} {rm : Room} {Pc : Array Value → State → Prop} {Qc : Array Value → State → Outcome → State → Prop} {free : Addr → Prop} {Ts : List Cond} {own C : String} {b : Addr} {As rest : List Value} {g : JFrame}
    (S : CallFix p m c cc nL s args Ts own) (hM : Met l y ws rm Pc Qc mc ms free) (cw : vx_CVW R s args own C index y bytes maxL ret hh ws rm mc ms n) (hp : PreV s H C b Pc As)
    (hg : g.method = m) (hn : As.length = n) (hsize : g.locals.size = nL) (hstack : g.stack = As.reverse ++ .ref b :: rest) (hW : 2 * g.monitorRoom + (rest.map fun v => v.category).sum ≤ 8) (hdg : decode cc g.pc = .ok (.invokevirtual index, 3)) (hf : cells + mc ≤ R.cells ∧ slots + ms ≤ R.slots) :
    va_Run p l e R s m args below meth c H locs cells slots mc ms g rest (Qc (Value.ref b :: As).toArray) free := by
  obtain ⟨⟨hrc, hrs, hfr, hlo, hws, hcw⟩, hcode, hini, hy, hlen, hl, hin, hse⟩ := cw
  have hK : Back l R p e below s args y 3 8 (PreOf R mc ms Pc) (PostOf Qc mc ms free) := va_backW (hh := hh) (bytes := bytes) (maxL := maxL) (ret := ret) hM hp.1 hrc hrs hfr hlo hws hcw (fun a' U hW => word_at hW (Or.inl (by first | rfl | simp [Cond.onTables, Cond.keeps, Cond.steady])) hini)
  obtain ⟨hx, hb, hml, ho, -⟩ := S
  obtain ⟨-, ⟨cellB, hcB, hoB, hclB⟩, hPc⟩ := hp
  intro T hT X
  obtain ⟨v, vm₁, ⟨U', l2, c2, s2⟩, hW₁, X', ⟨g', mk, t, L, e1, e2, hq, h1, hL, h2, h3⟩, st⟩ := vx_callVW X hx (C := C) (hh := hh) (bytes := bytes) (maxL := maxL) (ret := ret) ho hl hin hse hcode hy hK (by rw [hT]; exact hcB) hoB hclB hg (hsize.trans hml.symm) (argsL := As) (rest := rest) (fun sig h => hn.trans (hlen sig h)) hstack hW (by rw [hb]; exact hdg)
    (fun vm₁ hW₁ => ⟨hf.1, hf.2, hPc (T.setVm vm₁) hT hW₁⟩)
  dsimp only [Pt.U, Pt.locs, Pt.cells, Pt.slots] at X' e1 e2 h1 h2 h3 st
  subst h1; subst h2; subst h3
  exact ⟨v, (T.setVm vm₁).calling g' mk (Value.ref b :: As).toArray, t, U', L, hT, X', hL, e1, e2, hq, st⟩
section
variable {y : MethodName} {bytes cc : ByteArray} {maxL nL mc ms n index : Nat} {ret : Option FieldType} {ws : List Cond} {rm : Room} {Pc : Array Value → State → Prop} {Qc : Array Value → State → Outcome → State → Prop} {XC : String → State → State → Prop} {free : Addr → Prop} {Ts : List Cond} {own C : String} {b : Addr} {As rest : List Value} {g : JFrame}
theorem vx_runVX {hh : List (Nat × Nat × Nat × Nat)} (S : CallFix p m c cc nL s args Ts own) (hM : vx_Met l y ws rm Pc Qc XC mc ms free) (cw : vx_CVW R s args own C index y bytes maxL ret hh ws rm mc ms n) (hp : PreV s H C b Pc As)
    (hg : g.method = m) (hn : As.length = n) (hsize : g.locals.size = nL) (hstack : g.stack = As.reverse ++ .ref b :: rest) (hW : 2 * g.monitorRoom + (rest.map fun v => v.category).sum ≤ 8) (hdg : decode cc g.pc = .ok (.invokevirtual index, 3)) (hf : cells + mc ≤ R.cells ∧ slots + ms ≤ R.slots) :
    vx_Run p l e R s m args below meth c H locs cells slots mc ms g rest (Qc (Value.ref b :: As).toArray) XC free := by
  obtain ⟨⟨hrc, hrs, hfr, hlo, hws, hcw⟩, hcode, hini, hy, hlen, hl, hin, hse⟩ := cw
  have hK : vx_Back l R p e below s args y 3 8 (PreOf R mc ms Pc) (PostOf Qc mc ms free) (vx_Post XC mc ms free) := vx_backW (hh := hh) (bytes := bytes) (maxL := maxL) (ret := ret) hM hp.1 hrc hrs hfr hlo hws hcw (fun a' U hW => word_at hW (Or.inl (by first | rfl | simp [Cond.onTables, Cond.keeps, Cond.steady])) hini)
  obtain ⟨hx, hb, hml, ho, -⟩ := S
  obtain ⟨-, ⟨cellB, hcB, hoB, hclB⟩, hPc⟩ := hp
  intro T hT X
  rcases vx_callVX X hx (C := C) (hh := hh) (bytes := bytes) (maxL := maxL) (ret := ret) ho hl hin hse hcode hy hK (by rw [hT]; exact hcB) hoB hclB hg (hsize.trans hml.symm) (argsL := As) (rest := rest) (fun sig h => hn.trans (hlen sig h)) hstack hW (by rw [hb]; exact hdg)
    (fun vm₁ hW₁ => ⟨hf.1, hf.2, hPc (T.setVm vm₁) hT hW₁⟩) with ⟨v, vm₁, ⟨U', l2, c2, s2⟩, hW₁, X', ⟨g', mk, t, L, e1, e2, hq, h1, hL, h2, h3⟩, st⟩ | ⟨q, vm₁, ⟨U', l2, c2, s2⟩, hW₁, X', ⟨g', mk, t, L, E, ce, e1, e2, hq, hce, hcv, hcl, h1, hL, h2, h3⟩, st⟩
  · dsimp only [Pt.U, Pt.locs, Pt.cells, Pt.slots] at X' e1 e2 h1 h2 h3 st
    subst h1; subst h2; subst h3
    exact Or.inl ⟨v, (T.setVm vm₁).calling g' mk (Value.ref b :: As).toArray, t, U', L, hT, X', hL, e1, e2, hq, st⟩
  · dsimp only [Pt.U, Pt.locs, Pt.cells, Pt.slots] at X' e1 e2 h1 h2 h3 st hcl
    subst h1; subst h2; subst h3
    exact Or.inr ⟨q, (T.setVm vm₁).calling g' mk (Value.ref b :: As).toArray, t, U', L, E, ce, hT, X', hL, e1, e2, hq, hce, hcv, vx_cls hW₁ hcl, st⟩
theorem vx_runSX {hh : List (Nat × Nat × Nat × Nat)} (S : CallFix p m c cc nL s args Ts own) (hM : vx_Met l y ws rm Pc Qc XC mc ms free) (cw : vx_CSW R s args own index y bytes maxL ret hh ws rm mc ms n) (hp : PreS s H Pc As)
    (hg : g.method = m) (hn : As.length = n) (hsize : g.locals.size = nL) (hstack : g.stack = As.reverse ++ rest) (hW : 2 * g.monitorRoom + (rest.map fun v => v.category).sum ≤ 8) (hdg : decode cc g.pc = .ok (.invokestatic index, 3)) (hf : cells + mc ≤ R.cells ∧ slots + ms ≤ R.slots) :
    vx_Run p l e R s m args below meth c H locs cells slots mc ms g rest (Qc As.toArray) XC free := by
  obtain ⟨⟨hrc, hrs, hfr, hlo, hws, hcw⟩, hcode, hini, hy, hlen, hl, hstt⟩ := cw
  have hK : vx_Back l R p e below s args y 3 8 (PreOf R mc ms Pc) (PostOf Qc mc ms free) (vx_Post XC mc ms free) := vx_backW (hh := hh) (bytes := bytes) (maxL := maxL) (ret := ret) hM hp.1 hrc hrs hfr hlo hws hcw (fun a' U hW => word_at hW (Or.inl (by first | rfl | simp [Cond.onTables, Cond.keeps, Cond.steady])) hini)
  obtain ⟨hx, hb, hml, ho, -⟩ := S
  intro T hT X
  rcases vx_callSX X hx (hh := hh) (bytes := bytes) (maxL := maxL) (ret := ret) ho hl hstt hini hcode hy hK hg (hsize.trans hml.symm) (argsL := As) (rest := rest) (fun sig h => hn.trans (hlen sig h)) hstack hW (by rw [hb]; exact hdg)
    (fun vm₁ hW₁ => ⟨hf.1, hf.2, hp.2 (T.setVm vm₁) hT hW₁⟩) with ⟨v, vm₁, ⟨U', l2, c2, s2⟩, hW₁, X', ⟨g', mk, t, L, e1, e2, hq, h1, hL, h2, h3⟩, st⟩ | ⟨q, vm₁, ⟨U', l2, c2, s2⟩, hW₁, X', ⟨g', mk, t, L, E, ce, e1, e2, hq, hce, hcv, hcl, h1, hL, h2, h3⟩, st⟩
  · dsimp only [Pt.U, Pt.locs, Pt.cells, Pt.slots] at X' e1 e2 h1 h2 h3 st
    subst h1; subst h2; subst h3
    exact Or.inl ⟨v, (T.setVm vm₁).calling g' mk As.toArray, t, U', L, hT, X', hL, e1, e2, hq, st⟩
  · dsimp only [Pt.U, Pt.locs, Pt.cells, Pt.slots] at X' e1 e2 h1 h2 h3 st hcl
    subst h1; subst h2; subst h3
    exact Or.inr ⟨q, (T.setVm vm₁).calling g' mk As.toArray, t, U', L, E, ce, hT, X', hL, e1, e2, hq, hce, hcv, vx_cls hW₁ hcl, st⟩
end
end VXH
theorem vx_ofWH {l : Launch} {y : MethodName} {ws ws' : List Cond} {rm : Room} {Pc : Array Value → State → Prop} {Qc : Array Value → State → Outcome → State → Prop} {XC : String → State → State → Prop} {mc ms : Nat} {free : Addr → Prop} {cc : ByteArray} {maxL : Nat} {ret : Option FieldType} {hh : List (Nat × Nat × Nat × Nat)}
    (hy : plainName y.cls = true) (hw : ws = Cond.codeWith y cc maxL ret hh :: ws')
    (body : ∀ p e s m args below meth c s₁, BodyLoose p l y (headSpec ws rm) cc maxL ret e s m args below meth c s₁ → c.maxLocals = maxL → Pc args s →
      W p l e (headSpec ws rm).room s m args below meth c s.heap [] 0 0 (vx_MQ below Qc XC args s mc ms free) (entryFrame m args maxL)) : vx_Met l y ws rm Pc Qc XC mc ms free := by
  refine MetFree.of_bodyS (code := cc) (maxLocals := maxL) (ret := ret) hy ?_ ?_
  · intro args s m h hn
    obtain ⟨m9, meth, c, hn9, h1, h2, h3, h4, -, h5, h6, -⟩ := Cond.codeWith_spec (atoms_spec (ws := ws) h _ (by rw [hw]; exact List.mem_cons_self))
    cases hn.symm.trans hn9
    exact ⟨meth, c, h1, h2, h3, h4, h5, h6⟩
  · intro p e s m args below meth c s₁ B hml hP _
    have hh0 : s₁.heap = s.heap := by rw [B.state]; rfl
    obtain ⟨t, a1, o, b1, b2, b3⟩ := body p e s m args below meth c s₁ B hml hP s₁ hh0 (Stand.of_body B)
    exact ⟨t, o, a1, b1, b2, b3⟩
/-! ===== END ===== -/
end
section
def RX0 : String := "CutProofs$Checker"
def TX0 : u_T := fun k => match k with
  | _ => ("CutProofs$Checker", "model", "LCutProofs$Model;", true)
def tyX0 : Nat → FieldType := fun k => match k with
  | _ => .object "CutProofs$Model"
abbrev wsX00 : List Cond := u_ws RX0 TX0 1
theorem nmX0 : ∀ a, a < 1 → ∀ b, b < 1 → a ≠ b → (TX0 a).2.1 ≠ (TX0 b).2.1 := by decide +kernel
theorem tyX0_ok : ∀ k, k < 1 → parseFieldDescriptor (TX0 k).2.2.1 = some (tyX0 k) := by decide +kernel
abbrev cX0_init : ByteArray := prog_2_method_1_code
def yX0_init : MethodName := ⟨RX0, "<init>", "(LCutProofs$Model;)V"⟩
abbrev cX0_accepts : ByteArray := prog_2_method_2_code
def yX0_accepts : MethodName := ⟨RX0, "accepts", "(LCutProofs$Cut;)Z"⟩
abbrev cX0_acceptsRounding : ByteArray := prog_2_method_3_code
def yX0_acceptsRounding : MethodName := ⟨RX0, "acceptsRounding", "(LCutProofs$Cut;)Z"⟩
abbrev cX0_isTakenBelowZero : ByteArray := prog_2_method_4_code
def yX0_isTakenBelowZero : MethodName := ⟨RX0, "isTakenBelowZero", "(LCutProofs$Cut;)Z"⟩
abbrev cX0_comingFactor : ByteArray := prog_2_method_5_code
def yX0_comingFactor : MethodName := ⟨RX0, "comingFactor", "(LCutProofs$Cut;I)J"⟩
abbrev cX0_acceptsCover : ByteArray := prog_2_method_6_code
def yX0_acceptsCover : MethodName := ⟨RX0, "acceptsCover", "(LCutProofs$Cut;)Z"⟩
abbrev cX0_sumOver : ByteArray := prog_2_method_7_code
def yX0_sumOver : MethodName := ⟨RX0, "sumOver", "([II)I"⟩
abbrev cX0_acceptsClique : ByteArray := prog_2_method_8_code
def yX0_acceptsClique : MethodName := ⟨RX0, "acceptsClique", "(LCutProofs$Cut;)Z"⟩
def RX1 : String := "CutProofs$ChoiceWalk"
def TX1 : u_T := fun k => match k with
  | 0 => ("CutProofs$ChoiceWalk", "model", "LCutProofs$Model;", true)
  | 1 => ("CutProofs$ChoiceWalk", "chosen", "[I", true)
  | _ => ("CutProofs$ChoiceWalk", "sums", "[I", true)
def tyX1 : Nat → FieldType := fun k => match k with
  | 0 => .object "CutProofs$Model"
  | 1 => .array .int
  | _ => .array .int
abbrev wsX10 : List Cond := u_ws RX1 TX1 3
theorem nmX1 : ∀ a, a < 3 → ∀ b, b < 3 → a ≠ b → (TX1 a).2.1 ≠ (TX1 b).2.1 := by decide +kernel
theorem tyX1_ok : ∀ k, k < 3 → parseFieldDescriptor (TX1 k).2.2.1 = some (tyX1 k) := by decide +kernel
abbrev cX1_init : ByteArray := prog_3_method_1_code
def yX1_init : MethodName := ⟨RX1, "<init>", "(LCutProofs$Model;)V"⟩
abbrev cX1_begin : ByteArray := prog_3_method_2_code
def yX1_begin : MethodName := ⟨RX1, "begin", "()V"⟩
abbrev cX1_advance : ByteArray := prog_3_method_3_code
def yX1_advance : MethodName := ⟨RX1, "advance", "()V"⟩
abbrev cX1_choose : ByteArray := prog_3_method_4_code
def yX1_choose : MethodName := ⟨RX1, "choose", "(II)V"⟩
abbrev cX1_isPlan : ByteArray := prog_3_method_5_code
def yX1_isPlan : MethodName := ⟨RX1, "isPlan", "()Z"⟩
abbrev cX1_keeps : ByteArray := prog_3_method_6_code
def yX1_keeps : MethodName := ⟨RX1, "keeps", "(LCutProofs$Cut;)Z"⟩
def RX2 : String := "CutProofs$CliqueSearch"
def TX2 : u_T := fun k => match k with
  | 0 => ("CutProofs$CliqueSearch", "model", "LCutProofs$Model;", true)
  | 1 => ("CutProofs$CliqueSearch", "cuts", "LCutProofs$CutList;", true)
  | 2 => ("CutProofs$CliqueSearch", "clashes", "[I", true)
  | _ => ("CutProofs$CliqueSearch", "binaries", "I", false)
def tyX2 : Nat → FieldType := fun k => match k with
  | 0 => .object "CutProofs$Model"
  | 1 => .object "CutProofs$CutList"
  | 2 => .array .int
  | _ => .int
abbrev wsX20 : List Cond := u_ws RX2 TX2 4
theorem nmX2 : ∀ a, a < 4 → ∀ b, b < 4 → a ≠ b → (TX2 a).2.1 ≠ (TX2 b).2.1 := by decide +kernel
theorem tyX2_ok : ∀ k, k < 4 → parseFieldDescriptor (TX2 k).2.2.1 = some (tyX2 k) := by decide +kernel
abbrev cX2_init : ByteArray := prog_4_method_1_code
def yX2_init : MethodName := ⟨RX2, "<init>", "(LCutProofs$Model;LCutProofs$CutList;)V"⟩
abbrev cX2_seekCliques : ByteArray := prog_4_method_2_code
def yX2_seekCliques : MethodName := ⟨RX2, "seekCliques", "()V"⟩
abbrev cX2_readBinaries : ByteArray := prog_4_method_3_code
def yX2_readBinaries : MethodName := ⟨RX2, "readBinaries", "()V"⟩
abbrev cX2_readClashes : ByteArray := prog_4_method_4_code
def yX2_readClashes : MethodName := ⟨RX2, "readClashes", "()V"⟩
abbrev cX2_isWidestClique : ByteArray := prog_4_method_5_code
def yX2_isWidestClique : MethodName := ⟨RX2, "isWidestClique", "(I)Z"⟩
abbrev cX2_tryClique : ByteArray := prog_4_method_6_code
def yX2_tryClique : MethodName := ⟨RX2, "tryClique", "(I)Z"⟩
def RX3 : String := "CutProofs$CoverSearch"
def TX3 : u_T := fun k => match k with
  | 0 => ("CutProofs$CoverSearch", "model", "LCutProofs$Model;", true)
  | 1 => ("CutProofs$CoverSearch", "cuts", "LCutProofs$CutList;", true)
  | 2 => ("CutProofs$CoverSearch", "literalNames", "[I", true)
  | 3 => ("CutProofs$CoverSearch", "weights", "[I", true)
  | 4 => ("CutProofs$CoverSearch", "alphas", "[I", true)
  | 5 => ("CutProofs$CoverSearch", "lightest", "[I", true)
  | 6 => ("CutProofs$CoverSearch", "literals", "I", false)
  | _ => ("CutProofs$CoverSearch", "capacity", "I", false)
def tyX3 : Nat → FieldType := fun k => match k with
  | 0 => .object "CutProofs$Model"
  | 1 => .object "CutProofs$CutList"
  | 2 => .array .int
  | 3 => .array .int
  | 4 => .array .int
  | 5 => .array .int
  | 6 => .int
  | _ => .int
abbrev wsX30 : List Cond := u_ws RX3 TX3 8
theorem nmX3 : ∀ a, a < 8 → ∀ b, b < 8 → a ≠ b → (TX3 a).2.1 ≠ (TX3 b).2.1 := by decide +kernel
theorem tyX3_ok : ∀ k, k < 8 → parseFieldDescriptor (TX3 k).2.2.1 = some (tyX3 k) := by decide +kernel
abbrev cX3_init : ByteArray := prog_5_method_1_code
def yX3_init : MethodName := ⟨RX3, "<init>", "(LCutProofs$Model;LCutProofs$CutList;)V"⟩
abbrev cX3_seekCovers : ByteArray := prog_5_method_2_code
def yX3_seekCovers : MethodName := ⟨RX3, "seekCovers", "()V"⟩
abbrev cX3_readLiterals : ByteArray := prog_5_method_3_code
def yX3_readLiterals : MethodName := ⟨RX3, "readLiterals", "(I)V"⟩
abbrev cX3_isMinimalCover : ByteArray := prog_5_method_4_code
def yX3_isMinimalCover : MethodName := ⟨RX3, "isMinimalCover", "(I)Z"⟩
abbrev cX3_tryCover : ByteArray := prog_5_method_5_code
def yX3_tryCover : MethodName := ⟨RX3, "tryCover", "(II)Z"⟩
abbrev cX3_lift : ByteArray := prog_5_method_6_code
def yX3_lift : MethodName := ⟨RX3, "lift", "(I)V"⟩
abbrev cX3_giveAlpha : ByteArray := prog_5_method_7_code
def yX3_giveAlpha : MethodName := ⟨RX3, "giveAlpha", "(II)V"⟩
abbrev cX3_greatestSum : ByteArray := prog_5_method_8_code
def yX3_greatestSum : MethodName := ⟨RX3, "greatestSum", "(I)I"⟩
def RX4 : String := "CutProofs$Cut"
def TX4 : u_T := fun k => match k with
  | 0 => ("CutProofs$Cut", "factors", "[I", true)
  | 1 => ("CutProofs$Cut", "rowTimes", "[I", true)
  | 2 => ("CutProofs$Cut", "lowTimes", "[I", true)
  | 3 => ("CutProofs$Cut", "highTimes", "[I", true)
  | 4 => ("CutProofs$Cut", "right", "I", false)
  | 5 => ("CutProofs$Cut", "kind", "I", false)
  | 6 => ("CutProofs$Cut", "age", "I", false)
  | 7 => ("CutProofs$Cut", "divisor", "I", false)
  | _ => ("CutProofs$Cut", "coverRow", "I", false)
def tyX4 : Nat → FieldType := fun k => match k with
  | 0 => .array .int
  | 1 => .array .int
  | 2 => .array .int
  | 3 => .array .int
  | 4 => .int
  | 5 => .int
  | 6 => .int
  | 7 => .int
  | _ => .int
abbrev wsX40 : List Cond := u_ws RX4 TX4 9
theorem nmX4 : ∀ a, a < 9 → ∀ b, b < 9 → a ≠ b → (TX4 a).2.1 ≠ (TX4 b).2.1 := by decide +kernel
theorem tyX4_ok : ∀ k, k < 9 → parseFieldDescriptor (TX4 k).2.2.1 = some (tyX4 k) := by decide +kernel
abbrev cX4_init : ByteArray := prog_6_method_1_code
def yX4_init : MethodName := ⟨RX4, "<init>", "()V"⟩
abbrev cX4_begin : ByteArray := prog_6_method_2_code
def yX4_begin : MethodName := ⟨RX4, "begin", "(I)V"⟩
abbrev cX4_saysTheSameAs : ByteArray := prog_6_method_3_code
def yX4_saysTheSameAs : MethodName := ⟨RX4, "saysTheSameAs", "(LCutProofs$Cut;I)Z"⟩
abbrev cX4_shown : ByteArray := prog_6_method_4_code
def yX4_shown : MethodName := ⟨RX4, "shown", "(II)I"⟩
abbrev cX4_showOtherwise : ByteArray := prog_6_method_5_code
def yX4_showOtherwise : MethodName := ⟨RX4, "showOtherwise", "(III)V"⟩
def RX5 : String := "CutProofs$CutList"
def TX5 : u_T := fun k => match k with
  | 0 => ("CutProofs$CutList", "slots", "[LCutProofs$Cut;", true)
  | 1 => ("CutProofs$CutList", "count", "I", false)
  | 2 => ("CutProofs$CutList", "tookAll", "Z", false)
  | _ => ("CutProofs$CutList", "model", "LCutProofs$Model;", true)
def tyX5 : Nat → FieldType := fun k => match k with
  | 0 => .array (.object "CutProofs$Cut")
  | 1 => .int
  | 2 => .boolean
  | _ => .object "CutProofs$Model"
abbrev wsX50 : List Cond := u_ws RX5 TX5 4
theorem nmX5 : ∀ a, a < 4 → ∀ b, b < 4 → a ≠ b → (TX5 a).2.1 ≠ (TX5 b).2.1 := by decide +kernel
theorem tyX5_ok : ∀ k, k < 4 → parseFieldDescriptor (TX5 k).2.2.1 = some (tyX5 k) := by decide +kernel
abbrev cX5_init : ByteArray := prog_7_method_1_code
def yX5_init : MethodName := ⟨RX5, "<init>", "(LCutProofs$Model;)V"⟩
abbrev cX5_has : ByteArray := prog_7_method_2_code
def yX5_has : MethodName := ⟨RX5, "has", "(I)Z"⟩
abbrev cX5_newDraft : ByteArray := prog_7_method_3_code
def yX5_newDraft : MethodName := ⟨RX5, "newDraft", "(I)LCutProofs$Cut;"⟩
abbrev cX5_settleDraft : ByteArray := prog_7_method_4_code
def yX5_settleDraft : MethodName := ⟨RX5, "settleDraft", "()Z"⟩
abbrev cX5_isToldAlready : ByteArray := prog_7_method_5_code
def yX5_isToldAlready : MethodName := ⟨RX5, "isToldAlready", "(LCutProofs$Cut;)Z"⟩
abbrev cX5_ageAll : ByteArray := prog_7_method_6_code
def yX5_ageAll : MethodName := ⟨RX5, "ageAll", "()I"⟩
def RX6 : String := "CutProofs$Model"
def TX6 : u_T := fun k => match k with
  | 0 => ("CutProofs$Model", "low", "[I", true)
  | 1 => ("CutProofs$Model", "high", "[I", true)
  | 2 => ("CutProofs$Model", "scaledPoint", "[J", true)
  | 3 => ("CutProofs$Model", "factors", "[[I", true)
  | 4 => ("CutProofs$Model", "rights", "[I", true)
  | 5 => ("CutProofs$Model", "names", "I", false)
  | _ => ("CutProofs$Model", "rows", "I", false)
def tyX6 : Nat → FieldType := fun k => match k with
  | 0 => .array .int
  | 1 => .array .int
  | 2 => .array .long
  | 3 => .array (.array .int)
  | 4 => .array .int
  | 5 => .int
  | _ => .int
abbrev wsX60 : List Cond := u_ws RX6 TX6 7
theorem nmX6 : ∀ a, a < 7 → ∀ b, b < 7 → a ≠ b → (TX6 a).2.1 ≠ (TX6 b).2.1 := by decide +kernel
theorem tyX6_ok : ∀ k, k < 7 → parseFieldDescriptor (TX6 k).2.2.1 = some (tyX6 k) := by decide +kernel
abbrev cX6_init : ByteArray := prog_8_method_1_code
def yX6_init : MethodName := ⟨RX6, "<init>", "()V"⟩
abbrev cX6_hasName : ByteArray := prog_8_method_2_code
def yX6_hasName : MethodName := ⟨RX6, "hasName", "(I)Z"⟩
abbrev cX6_hasRow : ByteArray := prog_8_method_3_code
def yX6_hasRow : MethodName := ⟨RX6, "hasRow", "(I)Z"⟩
abbrev cX6_addName : ByteArray := prog_8_method_4_code
def yX6_addName : MethodName := ⟨RX6, "addName", "(II)I"⟩
abbrev cX6_addRow : ByteArray := prog_8_method_5_code
def yX6_addRow : MethodName := ⟨RX6, "addRow", "(I)I"⟩
abbrev cX6_isBinary : ByteArray := prog_8_method_6_code
def yX6_isBinary : MethodName := ⟨RX6, "isBinary", "(I)Z"⟩
abbrev cX6_least : ByteArray := prog_8_method_7_code
def yX6_least : MethodName := ⟨RX6, "least", "(II)I"⟩
abbrev cX6_clashAnywhere : ByteArray := prog_8_method_8_code
def yX6_clashAnywhere : MethodName := ⟨RX6, "clashAnywhere", "(II)Z"⟩
abbrev cX6_clashIn : ByteArray := prog_8_method_9_code
def yX6_clashIn : MethodName := ⟨RX6, "clashIn", "(III)Z"⟩
abbrev cX6_choices : ByteArray := prog_8_method_10_code
def yX6_choices : MethodName := ⟨RX6, "choices", "()J"⟩
abbrev cX6_scaledStrength : ByteArray := prog_8_method_11_code
def yX6_scaledStrength : MethodName := ⟨RX6, "scaledStrength", "(LCutProofs$Cut;)J"⟩
def RX7 : String := "CutProofs$RoundingSearch"
def TX7 : u_T := fun k => match k with
  | 0 => ("CutProofs$RoundingSearch", "model", "LCutProofs$Model;", true)
  | 1 => ("CutProofs$RoundingSearch", "cuts", "LCutProofs$CutList;", true)
  | 2 => ("CutProofs$RoundingSearch", "sumFactors", "[I", true)
  | _ => ("CutProofs$RoundingSearch", "sumRight", "I", false)
def tyX7 : Nat → FieldType := fun k => match k with
  | 0 => .object "CutProofs$Model"
  | 1 => .object "CutProofs$CutList"
  | 2 => .array .int
  | _ => .int
abbrev wsX70 : List Cond := u_ws RX7 TX7 4
theorem nmX7 : ∀ a, a < 4 → ∀ b, b < 4 → a ≠ b → (TX7 a).2.1 ≠ (TX7 b).2.1 := by decide +kernel
theorem tyX7_ok : ∀ k, k < 4 → parseFieldDescriptor (TX7 k).2.2.1 = some (tyX7 k) := by decide +kernel
abbrev cX7_init : ByteArray := prog_9_method_1_code
def yX7_init : MethodName := ⟨RX7, "<init>", "(LCutProofs$Model;LCutProofs$CutList;)V"⟩
abbrev cX7_seekHalves : ByteArray := prog_9_method_2_code
def yX7_seekHalves : MethodName := ⟨RX7, "seekHalves", "()V"⟩
abbrev cX7_seekRounded : ByteArray := prog_9_method_3_code
def yX7_seekRounded : MethodName := ⟨RX7, "seekRounded", "()V"⟩
abbrev cX7_moveSumTo : ByteArray := prog_9_method_4_code
def yX7_moveSumTo : MethodName := ⟨RX7, "moveSumTo", "(I)V"⟩
abbrev cX7_tryHalves : ByteArray := prog_9_method_5_code
def yX7_tryHalves : MethodName := ⟨RX7, "tryHalves", "(I)Z"⟩
abbrev cX7_tryRounded : ByteArray := prog_9_method_6_code
def yX7_tryRounded : MethodName := ⟨RX7, "tryRounded", "(II)Z"⟩
abbrev cX7_isHighNearer : ByteArray := prog_9_method_7_code
def yX7_isHighNearer : MethodName := ⟨RX7, "isHighNearer", "(I)Z"⟩
abbrev cX7_isLowCheaper : ByteArray := prog_9_method_8_code
def yX7_isLowCheaper : MethodName := ⟨RX7, "isLowCheaper", "(III)Z"⟩
abbrev cX7_takeLow : ByteArray := prog_9_method_9_code
def yX7_takeLow : MethodName := ⟨RX7, "takeLow", "(LCutProofs$Cut;II)V"⟩
abbrev cX7_takeHigh : ByteArray := prog_9_method_10_code
def yX7_takeHigh : MethodName := ⟨RX7, "takeHigh", "(LCutProofs$Cut;II)V"⟩
abbrev cX7_divideAndSettle : ByteArray := prog_9_method_11_code
def yX7_divideAndSettle : MethodName := ⟨RX7, "divideAndSettle", "(LCutProofs$Cut;I)Z"⟩
def RX8 : String := "CutProofs"
def TX8 : u_T := fun k => match k with
  | 0 => ("CutProofs", "model", "LCutProofs$Model;", true)
  | 1 => ("CutProofs", "cuts", "LCutProofs$CutList;", true)
  | 2 => ("CutProofs", "rounding", "LCutProofs$RoundingSearch;", true)
  | 3 => ("CutProofs", "covers", "LCutProofs$CoverSearch;", true)
  | 4 => ("CutProofs", "cliques", "LCutProofs$CliqueSearch;", true)
  | 5 => ("CutProofs", "checker", "LCutProofs$Checker;", true)
  | _ => ("CutProofs", "walk", "LCutProofs$ChoiceWalk;", true)
def tyX8 : Nat → FieldType := fun k => match k with
  | 0 => .object "CutProofs$Model"
  | 1 => .object "CutProofs$CutList"
  | 2 => .object "CutProofs$RoundingSearch"
  | 3 => .object "CutProofs$CoverSearch"
  | 4 => .object "CutProofs$CliqueSearch"
  | 5 => .object "CutProofs$Checker"
  | _ => .object "CutProofs$ChoiceWalk"
abbrev wsX80 : List Cond := u_ws RX8 TX8 7
theorem nmX8 : ∀ a, a < 7 → ∀ b, b < 7 → a ≠ b → (TX8 a).2.1 ≠ (TX8 b).2.1 := by decide +kernel
theorem tyX8_ok : ∀ k, k < 7 → parseFieldDescriptor (TX8 k).2.2.1 = some (tyX8 k) := by decide +kernel
abbrev cX8_init : ByteArray := prog_1_method_1_code
def yX8_init : MethodName := ⟨RX8, "<init>", "()V"⟩
abbrev cX8_name : ByteArray := prog_1_method_2_code
def yX8_name : MethodName := ⟨RX8, "name", "(II)I"⟩
abbrev cX8_row : ByteArray := prog_1_method_3_code
def yX8_row : MethodName := ⟨RX8, "row", "(I)I"⟩
abbrev cX8_factor : ByteArray := prog_1_method_4_code
def yX8_factor : MethodName := ⟨RX8, "factor", "(III)I"⟩
abbrev cX8_point : ByteArray := prog_1_method_5_code
def yX8_point : MethodName := ⟨RX8, "point", "(III)I"⟩
abbrev cX8_find : ByteArray := prog_1_method_6_code
def yX8_find : MethodName := ⟨RX8, "find", "(I)I"⟩
abbrev cX8_closed : ByteArray := prog_1_method_7_code
def yX8_closed : MethodName := ⟨RX8, "closed", "()I"⟩
abbrev cX8_cut : ByteArray := prog_1_method_8_code
def yX8_cut : MethodName := ⟨RX8, "cut", "(III)I"⟩
abbrev cX8_proof : ByteArray := prog_1_method_9_code
def yX8_proof : MethodName := ⟨RX8, "proof", "(III)I"⟩
abbrev cX8_plant : ByteArray := prog_1_method_10_code
def yX8_plant : MethodName := ⟨RX8, "plant", "(IIII)I"⟩
abbrev cX8_check : ByteArray := prog_1_method_11_code
def yX8_check : MethodName := ⟨RX8, "check", "(I)I"⟩
abbrev cX8_strength : ByteArray := prog_1_method_12_code
def yX8_strength : MethodName := ⟨RX8, "strength", "(II)J"⟩
abbrev cX8_best : ByteArray := prog_1_method_13_code
def yX8_best : MethodName := ⟨RX8, "best", "()I"⟩
abbrev cX8_holds : ByteArray := prog_1_method_14_code
def yX8_holds : MethodName := ⟨RX8, "holds", "(I)I"⟩
abbrev cX8_plans : ByteArray := prog_1_method_15_code
def yX8_plans : MethodName := ⟨RX8, "plans", "()I"⟩
abbrev cX8_turn : ByteArray := prog_1_method_16_code
def yX8_turn : MethodName := ⟨RX8, "turn", "()I"⟩
abbrev cX8_told : ByteArray := prog_1_method_17_code
def yX8_told : MethodName := ⟨RX8, "told", "(I)I"⟩
abbrev cX8_clear : ByteArray := prog_1_method_18_code
def yX8_clear : MethodName := ⟨RX8, "clear", "()V"⟩
abbrev cX8_countBroken : ByteArray := prog_1_method_19_code
def yX8_countBroken : MethodName := ⟨RX8, "countBroken", "()I"⟩
abbrev cX8_countAccepted : ByteArray := prog_1_method_20_code
def yX8_countAccepted : MethodName := ⟨RX8, "countAccepted", "()I"⟩
abbrev cX8_refusalOfPlanted : ByteArray := prog_1_method_21_code
def yX8_refusalOfPlanted : MethodName := ⟨RX8, "refusalOfPlanted", "(LCutProofs$Cut;II)I"⟩
abbrev cX8_refusalOfShown : ByteArray := prog_1_method_22_code
def yX8_refusalOfShown : MethodName := ⟨RX8, "refusalOfShown", "(LCutProofs$Cut;II)I"⟩
abbrev cX8_isBeyond : ByteArray := prog_1_method_23_code
def yX8_isBeyond : MethodName := ⟨RX8, "isBeyond", "(II)Z"⟩
abbrev cX8_commonWithScale : ByteArray := prog_1_method_24_code
def yX8_commonWithScale : MethodName := ⟨RX8, "commonWithScale", "(J)J"⟩
abbrev cX8_isIn : ByteArray := prog_1_method_25_code
def yX8_isIn : MethodName := ⟨RX8, "isIn", "(II)Z"⟩
def RX9 : String := "CutProofsModel"
def TX9 : u_T := fun k => match k with
  | 0 => ("CutProofsModel", "names", "I", false)
  | 1 => ("CutProofsModel", "low", "[I", true)
  | 2 => ("CutProofsModel", "high", "[I", true)
  | 3 => ("CutProofsModel", "at", "[J", true)
  | 4 => ("CutProofsModel", "rows", "I", false)
  | 5 => ("CutProofsModel", "right", "[I", true)
  | 6 => ("CutProofsModel", "factors", "[I", true)
  | 7 => ("CutProofsModel", "cuts", "I", false)
  | 8 => ("CutProofsModel", "cutFactor", "[J", true)
  | 9 => ("CutProofsModel", "cutRight", "[J", true)
  | 10 => ("CutProofsModel", "cutKind", "[I", true)
  | 11 => ("CutProofsModel", "cutAge", "[I", true)
  | 12 => ("CutProofsModel", "shown", "[I", true)
  | 13 => ("CutProofsModel", "isClosed", "I", false)
  | 14 => ("CutProofsModel", "taken", "I", false)
  | 15 => ("CutProofsModel", "code", "I", false)
  | 16 => ("CutProofsModel", "made", "[J", true)
  | 17 => ("CutProofsModel", "madeRight", "J", false)
  | 18 => ("CutProofsModel", "madeShown", "[I", true)
  | 19 => ("CutProofsModel", "literal", "[I", true)
  | 20 => ("CutProofsModel", "weight", "[I", true)
  | 21 => ("CutProofsModel", "alpha", "[I", true)
  | 22 => ("CutProofsModel", "literals", "I", false)
  | 23 => ("CutProofsModel", "capacity", "I", false)
  | _ => ("CutProofsModel", "plan", "[I", true)
def tyX9 : Nat → FieldType := fun k => match k with
  | 0 => .int
  | 1 => .array .int
  | 2 => .array .int
  | 3 => .array .long
  | 4 => .int
  | 5 => .array .int
  | 6 => .array .int
  | 7 => .int
  | 8 => .array .long
  | 9 => .array .long
  | 10 => .array .int
  | 11 => .array .int
  | 12 => .array .int
  | 13 => .int
  | 14 => .int
  | 15 => .int
  | 16 => .array .long
  | 17 => .long
  | 18 => .array .int
  | 19 => .array .int
  | 20 => .array .int
  | 21 => .array .int
  | 22 => .int
  | 23 => .int
  | _ => .array .int
abbrev wsX90 : List Cond := u_ws RX9 TX9 25
theorem nmX9 : ∀ a, a < 25 → ∀ b, b < 25 → a ≠ b → (TX9 a).2.1 ≠ (TX9 b).2.1 := by decide +kernel
theorem tyX9_ok : ∀ k, k < 25 → parseFieldDescriptor (TX9 k).2.2.1 = some (tyX9 k) := by decide +kernel
abbrev cX9_init : ByteArray := prog_11_method_1_code
def yX9_init : MethodName := ⟨RX9, "<init>", "()V"⟩
abbrev cX9_thrown : ByteArray := prog_11_method_2_code
def yX9_thrown : MethodName := ⟨RX9, "thrown", "()I"⟩
abbrev cX9_name : ByteArray := prog_11_method_3_code
def yX9_name : MethodName := ⟨RX9, "name", "(II)I"⟩
abbrev cX9_row : ByteArray := prog_11_method_4_code
def yX9_row : MethodName := ⟨RX9, "row", "(I)I"⟩
abbrev cX9_isName : ByteArray := prog_11_method_5_code
def yX9_isName : MethodName := ⟨RX9, "isName", "(I)Z"⟩
abbrev cX9_isRow : ByteArray := prog_11_method_6_code
def yX9_isRow : MethodName := ⟨RX9, "isRow", "(I)Z"⟩
abbrev cX9_isCut : ByteArray := prog_11_method_7_code
def yX9_isCut : MethodName := ⟨RX9, "isCut", "(I)Z"⟩
abbrev cX9_factor : ByteArray := prog_11_method_8_code
def yX9_factor : MethodName := ⟨RX9, "factor", "(III)I"⟩
abbrev cX9_point : ByteArray := prog_11_method_9_code
def yX9_point : MethodName := ⟨RX9, "point", "(III)I"⟩
abbrev cX9_isBinary : ByteArray := prog_11_method_10_code
def yX9_isBinary : MethodName := ⟨RX9, "isBinary", "(I)Z"⟩
abbrev cX9_least : ByteArray := prog_11_method_11_code
def yX9_least : MethodName := ⟨RX9, "least", "(II)I"⟩
abbrev cX9_emptied : ByteArray := prog_11_method_12_code
def yX9_emptied : MethodName := ⟨RX9, "emptied", "()V"⟩
abbrev cX9_isThere : ByteArray := prog_11_method_13_code
def yX9_isThere : MethodName := ⟨RX9, "isThere", "()Z"⟩
abbrev cX9_offer : ByteArray := prog_11_method_14_code
def yX9_offer : MethodName := ⟨RX9, "offer", "(I)V"⟩
abbrev cX9_takeRow : ByteArray := prog_11_method_15_code
def yX9_takeRow : MethodName := ⟨RX9, "takeRow", "(I)V"⟩
abbrev cX9_takeLow : ByteArray := prog_11_method_16_code
def yX9_takeLow : MethodName := ⟨RX9, "takeLow", "(II)V"⟩
abbrev cX9_takeHigh : ByteArray := prog_11_method_17_code
def yX9_takeHigh : MethodName := ⟨RX9, "takeHigh", "(II)V"⟩
abbrev cX9_divide : ByteArray := prog_11_method_18_code
def yX9_divide : MethodName := ⟨RX9, "divide", "(I)V"⟩
abbrev cX9_halves : ByteArray := prog_11_method_19_code
def yX9_halves : MethodName := ⟨RX9, "halves", "()V"⟩
abbrev cX9_rounded : ByteArray := prog_11_method_20_code
def yX9_rounded : MethodName := ⟨RX9, "rounded", "()V"⟩
abbrev cX9_findLiterals : ByteArray := prog_11_method_21_code
def yX9_findLiterals : MethodName := ⟨RX9, "findLiterals", "(I)V"⟩
abbrev cX9_weightOf : ByteArray := prog_11_method_22_code
def yX9_weightOf : MethodName := ⟨RX9, "weightOf", "(I)I"⟩
abbrev cX9_isCover : ByteArray := prog_11_method_23_code
def yX9_isCover : MethodName := ⟨RX9, "isCover", "(I)Z"⟩
abbrev cX9_greatest : ByteArray := prog_11_method_24_code
def yX9_greatest : MethodName := ⟨RX9, "greatest", "(II)I"⟩
abbrev cX9_cover : ByteArray := prog_11_method_25_code
def yX9_cover : MethodName := ⟨RX9, "cover", "(II)V"⟩
abbrev cX9_covers : ByteArray := prog_11_method_26_code
def yX9_covers : MethodName := ⟨RX9, "covers", "()V"⟩
abbrev cX9_clash : ByteArray := prog_11_method_27_code
def yX9_clash : MethodName := ⟨RX9, "clash", "(II)Z"⟩
abbrev cX9_isClique : ByteArray := prog_11_method_28_code
def yX9_isClique : MethodName := ⟨RX9, "isClique", "(I)Z"⟩
abbrev cX9_cliques : ByteArray := prog_11_method_29_code
def yX9_cliques : MethodName := ⟨RX9, "cliques", "()V"⟩
abbrev cX9_find : ByteArray := prog_11_method_30_code
def yX9_find : MethodName := ⟨RX9, "find", "(I)I"⟩
abbrev cX9_closed : ByteArray := prog_11_method_31_code
def yX9_closed : MethodName := ⟨RX9, "closed", "()I"⟩
abbrev cX9_cut : ByteArray := prog_11_method_32_code
def yX9_cut : MethodName := ⟨RX9, "cut", "(III)I"⟩
abbrev cX9_placeOf : ByteArray := prog_11_method_33_code
def yX9_placeOf : MethodName := ⟨RX9, "placeOf", "(III)I"⟩
abbrev cX9_proof : ByteArray := prog_11_method_34_code
def yX9_proof : MethodName := ⟨RX9, "proof", "(III)I"⟩
abbrev cX9_plant : ByteArray := prog_11_method_35_code
def yX9_plant : MethodName := ⟨RX9, "plant", "(IIII)I"⟩
abbrev cX9_acceptsSum : ByteArray := prog_11_method_36_code
def yX9_acceptsSum : MethodName := ⟨RX9, "acceptsSum", "(I)Z"⟩
abbrev cX9_acceptsCover : ByteArray := prog_11_method_37_code
def yX9_acceptsCover : MethodName := ⟨RX9, "acceptsCover", "(I)Z"⟩
abbrev cX9_acceptsClique : ByteArray := prog_11_method_38_code
def yX9_acceptsClique : MethodName := ⟨RX9, "acceptsClique", "(I)Z"⟩
abbrev cX9_accepts : ByteArray := prog_11_method_39_code
def yX9_accepts : MethodName := ⟨RX9, "accepts", "(I)Z"⟩
abbrev cX9_check : ByteArray := prog_11_method_40_code
def yX9_check : MethodName := ⟨RX9, "check", "(I)I"⟩
abbrev cX9_over : ByteArray := prog_11_method_41_code
def yX9_over : MethodName := ⟨RX9, "over", "(I)J"⟩
abbrev cX9_strength : ByteArray := prog_11_method_42_code
def yX9_strength : MethodName := ⟨RX9, "strength", "(II)J"⟩
abbrev cX9_best : ByteArray := prog_11_method_43_code
def yX9_best : MethodName := ⟨RX9, "best", "()I"⟩
abbrev cX9_tooMany : ByteArray := prog_11_method_44_code
def yX9_tooMany : MethodName := ⟨RX9, "tooMany", "()Z"⟩
abbrev cX9_goesOn : ByteArray := prog_11_method_45_code
def yX9_goesOn : MethodName := ⟨RX9, "goesOn", "()Z"⟩
abbrev cX9_isPlan : ByteArray := prog_11_method_46_code
def yX9_isPlan : MethodName := ⟨RX9, "isPlan", "()Z"⟩
abbrev cX9_count : ByteArray := prog_11_method_47_code
def yX9_count : MethodName := ⟨RX9, "count", "(I)I"⟩
abbrev cX9_holds : ByteArray := prog_11_method_48_code
def yX9_holds : MethodName := ⟨RX9, "holds", "(I)I"⟩
abbrev cX9_plans : ByteArray := prog_11_method_49_code
def yX9_plans : MethodName := ⟨RX9, "plans", "()I"⟩
abbrev cX9_turn : ByteArray := prog_11_method_50_code
def yX9_turn : MethodName := ⟨RX9, "turn", "()I"⟩
abbrev cX9_told : ByteArray := prog_11_method_51_code
def yX9_told : MethodName := ⟨RX9, "told", "(I)I"⟩
abbrev cX9_clear : ByteArray := prog_11_method_52_code
def yX9_clear : MethodName := ⟨RX9, "clear", "()V"⟩
def RJ6 : String := "java/lang/Integer"
def TJ6 : u_T := fun k => match k with
  | _ => ("", "", "", false)
def tyJ6 : Nat → FieldType := fun k => match k with
  | _ => .int
abbrev wsJ60 : List Cond := u_ws RJ6 TJ6 0
theorem nmJ6 : ∀ a, a < 0 → ∀ b, b < 0 → a ≠ b → (TJ6 a).2.1 ≠ (TJ6 b).2.1 := by decide +kernel
theorem tyJ6_ok : ∀ k, k < 0 → parseFieldDescriptor (TJ6 k).2.2.1 = some (tyJ6 k) := by decide +kernel
abbrev cJ6_bitCount_0f7a4 : ByteArray := prog_15_method_49_code
def yJ6_bitCount_0f7a4 : MethodName := ⟨RJ6, "bitCount", "(I)I"⟩
def RJ9 : String := "java/lang/Math"
def TJ9 : u_T := fun k => match k with
  | _ => ("", "", "", false)
def tyJ9 : Nat → FieldType := fun k => match k with
  | _ => .int
abbrev wsJ90 : List Cond := u_ws RJ9 TJ9 0
theorem nmJ9 : ∀ a, a < 0 → ∀ b, b < 0 → a ≠ b → (TJ9 a).2.1 ≠ (TJ9 b).2.1 := by decide +kernel
theorem tyJ9_ok : ∀ k, k < 0 → parseFieldDescriptor (TJ9 k).2.2.1 = some (tyJ9 k) := by decide +kernel
abbrev cJ9_floorDiv_7cf53 : ByteArray := prog_16_method_47_code
def yJ9_floorDiv_7cf53 : MethodName := ⟨RJ9, "floorDiv", "(II)I"⟩
abbrev cJ9_floorDiv_f86c9 : ByteArray := prog_16_method_49_code
def yJ9_floorDiv_f86c9 : MethodName := ⟨RJ9, "floorDiv", "(JJ)J"⟩
abbrev cJ9_floorMod_7cf53 : ByteArray := prog_16_method_50_code
def yJ9_floorMod_7cf53 : MethodName := ⟨RJ9, "floorMod", "(II)I"⟩
abbrev cJ9_floorMod_f86c9 : ByteArray := prog_16_method_52_code
def yJ9_floorMod_f86c9 : MethodName := ⟨RJ9, "floorMod", "(JJ)J"⟩
abbrev cJ9_abs_0f7a4 : ByteArray := prog_16_method_59_code
def yJ9_abs_0f7a4 : MethodName := ⟨RJ9, "abs", "(I)I"⟩
abbrev cJ9_abs_067f4 : ByteArray := prog_16_method_61_code
def yJ9_abs_067f4 : MethodName := ⟨RJ9, "abs", "(J)J"⟩
abbrev cJ9_max_7cf53 : ByteArray := prog_16_method_65_code
def yJ9_max_7cf53 : MethodName := ⟨RJ9, "max", "(II)I"⟩
abbrev cJ9_max_f86c9 : ByteArray := prog_16_method_66_code
def yJ9_max_f86c9 : MethodName := ⟨RJ9, "max", "(JJ)J"⟩
abbrev cJ9_min_7cf53 : ByteArray := prog_16_method_69_code
def yJ9_min_7cf53 : MethodName := ⟨RJ9, "min", "(II)I"⟩
def RJ0 : String := "java/lang/String"
def TJ0 : u_T := fun k => match k with
  | _ => ("", "", "", false)
def tyJ0 : Nat → FieldType := fun k => match k with
  | _ => .int
abbrev wsJ00 : List Cond := u_ws RJ0 TJ0 0
theorem nmJ0 : ∀ a, a < 0 → ∀ b, b < 0 → a ≠ b → (TJ0 a).2.1 ≠ (TJ0 b).2.1 := by decide +kernel
theorem tyJ0_ok : ∀ k, k < 0 → parseFieldDescriptor (TJ0 k).2.2.1 = some (tyJ0 k) := by decide +kernel
def RJ7 : String := "java/util/Arrays"
def TJ7 : u_T := fun k => match k with
  | _ => ("", "", "", false)
def tyJ7 : Nat → FieldType := fun k => match k with
  | _ => .int
abbrev wsJ70 : List Cond := u_ws RJ7 TJ7 0
theorem nmJ7 : ∀ a, a < 0 → ∀ b, b < 0 → a ≠ b → (TJ7 a).2.1 ≠ (TJ7 b).2.1 := by decide +kernel
theorem tyJ7_ok : ∀ k, k < 0 → parseFieldDescriptor (TJ7 k).2.2.1 = some (tyJ7 k) := by decide +kernel
abbrev cJ7_fill_53178 : ByteArray := prog_20_method_103_code
def yJ7_fill_53178 : MethodName := ⟨RJ7, "fill", "([II)V"⟩
def RL : String := "CutProofsLaw"
abbrev cL_cut : ByteArray := method_3_code
def yL_cut : MethodName := ⟨RL, "cut", "(LCutProofs;III[J)I"⟩
abbrev cL_strength : ByteArray := method_4_code
def yL_strength : MethodName := ⟨RL, "strength", "(LCutProofs;II[J)I"⟩
abbrev cL_law : ByteArray := code
def yL_law : MethodName := ⟨RL, "law", "([I)Z"⟩
abbrev vwCl : List vw_C := [(RX0, TX0, 1), (RX1, TX1, 3), (RX2, TX2, 4), (RX3, TX3, 8), (RX4, TX4, 9), (RX5, TX5, 4), (RX6, TX6, 7), (RX7, TX7, 4), (RX8, TX8, 7), (RX9, TX9, 25)]
end
section
theorem dX0_init_0 : decode cX0_init 0 = .ok (.aload_n 0, 1) := by decide +kernel
theorem dX0_init_1 : decode cX0_init 1 = .ok (.invokespecial 3, 3) := by decide +kernel
theorem dX0_init_4 : decode cX0_init 4 = .ok (.aload_n 0, 1) := by decide +kernel
theorem dX0_init_5 : decode cX0_init 5 = .ok (.aload_n 1, 1) := by decide +kernel
theorem dX0_init_6 : decode cX0_init 6 = .ok (.putfield 9, 3) := by decide +kernel
theorem dX0_init_9 : decode cX0_init 9 = .ok (.return_, 1) := by decide +kernel
theorem dX0_accepts_0 : decode cX0_accepts 0 = .ok (.aload_n 1, 1) := by decide +kernel
theorem dX0_accepts_1 : decode cX0_accepts 1 = .ok (.getfield 15, 3) := by decide +kernel
theorem dX0_accepts_4 : decode cX0_accepts 4 = .ok (.tableswitch 40 0 2 #[28, 28, 34], 28) := by decide +kernel
theorem dX0_accepts_32 : decode cX0_accepts 32 = .ok (.aload_n 0, 1) := by decide +kernel
theorem dX0_accepts_33 : decode cX0_accepts 33 = .ok (.aload_n 1, 1) := by decide +kernel
theorem dX0_accepts_34 : decode cX0_accepts 34 = .ok (.invokevirtual 21, 3) := by decide +kernel
theorem dX0_accepts_37 : decode cX0_accepts 37 = .ok (.ireturn, 1) := by decide +kernel
theorem dX0_accepts_38 : decode cX0_accepts 38 = .ok (.aload_n 0, 1) := by decide +kernel
theorem dX0_accepts_39 : decode cX0_accepts 39 = .ok (.aload_n 1, 1) := by decide +kernel
theorem dX0_accepts_40 : decode cX0_accepts 40 = .ok (.invokevirtual 25, 3) := by decide +kernel
theorem dX0_accepts_43 : decode cX0_accepts 43 = .ok (.ireturn, 1) := by decide +kernel
theorem dX0_accepts_44 : decode cX0_accepts 44 = .ok (.aload_n 0, 1) := by decide +kernel
theorem dX0_accepts_45 : decode cX0_accepts 45 = .ok (.aload_n 1, 1) := by decide +kernel
theorem dX0_accepts_46 : decode cX0_accepts 46 = .ok (.invokevirtual 28, 3) := by decide +kernel
theorem dX0_accepts_49 : decode cX0_accepts 49 = .ok (.ireturn, 1) := by decide +kernel
theorem dX0_acceptsRounding_0 : decode cX0_acceptsRounding 0 = .ok (.aload_n 1, 1) := by decide +kernel
theorem dX0_acceptsRounding_1 : decode cX0_acceptsRounding 1 = .ok (.getfield 31, 3) := by decide +kernel
theorem dX0_acceptsRounding_4 : decode cX0_acceptsRounding 4 = .ok (.iconst 1, 1) := by decide +kernel
theorem dX0_acceptsRounding_5 : decode cX0_acceptsRounding 5 = .ok (.if_icmp .lt 11, 3) := by decide +kernel
theorem dX0_acceptsRounding_8 : decode cX0_acceptsRounding 8 = .ok (.aload_n 0, 1) := by decide +kernel
theorem dX0_acceptsRounding_9 : decode cX0_acceptsRounding 9 = .ok (.aload_n 1, 1) := by decide +kernel
theorem dX0_acceptsRounding_10 : decode cX0_acceptsRounding 10 = .ok (.invokevirtual 34, 3) := by decide +kernel
theorem dX0_acceptsRounding_13 : decode cX0_acceptsRounding 13 = .ok (.ifCond .eq 5, 3) := by decide +kernel
theorem dX0_acceptsRounding_16 : decode cX0_acceptsRounding 16 = .ok (.iconst 0, 1) := by decide +kernel
theorem dX0_acceptsRounding_17 : decode cX0_acceptsRounding 17 = .ok (.ireturn, 1) := by decide +kernel
theorem dX0_acceptsRounding_18 : decode cX0_acceptsRounding 18 = .ok (.lconst 0, 1) := by decide +kernel
theorem dX0_acceptsRounding_19 : decode cX0_acceptsRounding 19 = .ok (.lstore_n 2, 1) := by decide +kernel
theorem dX0_acceptsRounding_20 : decode cX0_acceptsRounding 20 = .ok (.iconst 0, 1) := by decide +kernel
theorem dX0_acceptsRounding_21 : decode cX0_acceptsRounding 21 = .ok (.istore 4, 2) := by decide +kernel
theorem dX0_acceptsRounding_23 : decode cX0_acceptsRounding 23 = .ok (.iload 4, 2) := by decide +kernel
theorem dX0_acceptsRounding_25 : decode cX0_acceptsRounding 25 = .ok (.aload_n 0, 1) := by decide +kernel
theorem dX0_acceptsRounding_26 : decode cX0_acceptsRounding 26 = .ok (.getfield 9, 3) := by decide +kernel
theorem dX0_acceptsRounding_29 : decode cX0_acceptsRounding 29 = .ok (.getfield 37, 3) := by decide +kernel
theorem dX0_acceptsRounding_32 : decode cX0_acceptsRounding 32 = .ok (.if_icmp .ge 32, 3) := by decide +kernel
theorem dX0_acceptsRounding_35 : decode cX0_acceptsRounding 35 = .ok (.lload_n 2, 1) := by decide +kernel
theorem dX0_acceptsRounding_36 : decode cX0_acceptsRounding 36 = .ok (.aload_n 1, 1) := by decide +kernel
theorem dX0_acceptsRounding_37 : decode cX0_acceptsRounding 37 = .ok (.getfield 42, 3) := by decide +kernel
theorem dX0_acceptsRounding_40 : decode cX0_acceptsRounding 40 = .ok (.iload 4, 2) := by decide +kernel
theorem dX0_acceptsRounding_42 : decode cX0_acceptsRounding 42 = .ok (.iaload, 1) := by decide +kernel
theorem dX0_acceptsRounding_43 : decode cX0_acceptsRounding 43 = .ok (.i2l, 1) := by decide +kernel
theorem dX0_acceptsRounding_44 : decode cX0_acceptsRounding 44 = .ok (.aload_n 0, 1) := by decide +kernel
theorem dX0_acceptsRounding_45 : decode cX0_acceptsRounding 45 = .ok (.getfield 9, 3) := by decide +kernel
theorem dX0_acceptsRounding_48 : decode cX0_acceptsRounding 48 = .ok (.getfield 46, 3) := by decide +kernel
theorem dX0_acceptsRounding_51 : decode cX0_acceptsRounding 51 = .ok (.iload 4, 2) := by decide +kernel
theorem dX0_acceptsRounding_53 : decode cX0_acceptsRounding 53 = .ok (.iaload, 1) := by decide +kernel
theorem dX0_acceptsRounding_54 : decode cX0_acceptsRounding 54 = .ok (.i2l, 1) := by decide +kernel
theorem dX0_acceptsRounding_55 : decode cX0_acceptsRounding 55 = .ok (.lmul, 1) := by decide +kernel
theorem dX0_acceptsRounding_56 : decode cX0_acceptsRounding 56 = .ok (.ladd, 1) := by decide +kernel
theorem dX0_acceptsRounding_57 : decode cX0_acceptsRounding 57 = .ok (.lstore_n 2, 1) := by decide +kernel
theorem dX0_acceptsRounding_58 : decode cX0_acceptsRounding 58 = .ok (.iinc 4 1, 3) := by decide +kernel
theorem dX0_acceptsRounding_61 : decode cX0_acceptsRounding 61 = .ok (.goto (-38), 3) := by decide +kernel
theorem dX0_acceptsRounding_64 : decode cX0_acceptsRounding 64 = .ok (.iconst 0, 1) := by decide +kernel
theorem dX0_acceptsRounding_65 : decode cX0_acceptsRounding 65 = .ok (.istore 4, 2) := by decide +kernel
theorem dX0_acceptsRounding_67 : decode cX0_acceptsRounding 67 = .ok (.iload 4, 2) := by decide +kernel
theorem dX0_acceptsRounding_69 : decode cX0_acceptsRounding 69 = .ok (.aload_n 0, 1) := by decide +kernel
theorem dX0_acceptsRounding_70 : decode cX0_acceptsRounding 70 = .ok (.getfield 9, 3) := by decide +kernel
theorem dX0_acceptsRounding_73 : decode cX0_acceptsRounding 73 = .ok (.getfield 49, 3) := by decide +kernel
theorem dX0_acceptsRounding_76 : decode cX0_acceptsRounding 76 = .ok (.if_icmp .ge 80, 3) := by decide +kernel
theorem dX0_acceptsRounding_79 : decode cX0_acceptsRounding 79 = .ok (.aload_n 1, 1) := by decide +kernel
theorem dX0_acceptsRounding_80 : decode cX0_acceptsRounding 80 = .ok (.getfield 52, 3) := by decide +kernel
theorem dX0_acceptsRounding_83 : decode cX0_acceptsRounding 83 = .ok (.iload 4, 2) := by decide +kernel
theorem dX0_acceptsRounding_85 : decode cX0_acceptsRounding 85 = .ok (.iaload, 1) := by decide +kernel
theorem dX0_acceptsRounding_86 : decode cX0_acceptsRounding 86 = .ok (.i2l, 1) := by decide +kernel
theorem dX0_acceptsRounding_87 : decode cX0_acceptsRounding 87 = .ok (.aload_n 1, 1) := by decide +kernel
theorem dX0_acceptsRounding_88 : decode cX0_acceptsRounding 88 = .ok (.getfield 31, 3) := by decide +kernel
theorem dX0_acceptsRounding_91 : decode cX0_acceptsRounding 91 = .ok (.i2l, 1) := by decide +kernel
theorem dX0_acceptsRounding_92 : decode cX0_acceptsRounding 92 = .ok (.lmul, 1) := by decide +kernel
theorem dX0_acceptsRounding_93 : decode cX0_acceptsRounding 93 = .ok (.aload_n 0, 1) := by decide +kernel
theorem dX0_acceptsRounding_94 : decode cX0_acceptsRounding 94 = .ok (.aload_n 1, 1) := by decide +kernel
theorem dX0_acceptsRounding_95 : decode cX0_acceptsRounding 95 = .ok (.iload 4, 2) := by decide +kernel
theorem dX0_acceptsRounding_97 : decode cX0_acceptsRounding 97 = .ok (.invokevirtual 55, 3) := by decide +kernel
theorem dX0_acceptsRounding_100 : decode cX0_acceptsRounding 100 = .ok (.lcmp, 1) := by decide +kernel
theorem dX0_acceptsRounding_101 : decode cX0_acceptsRounding 101 = .ok (.ifCond .eq 5, 3) := by decide +kernel
theorem dX0_acceptsRounding_104 : decode cX0_acceptsRounding 104 = .ok (.iconst 0, 1) := by decide +kernel
theorem dX0_acceptsRounding_105 : decode cX0_acceptsRounding 105 = .ok (.ireturn, 1) := by decide +kernel
theorem dX0_acceptsRounding_106 : decode cX0_acceptsRounding 106 = .ok (.lload_n 2, 1) := by decide +kernel
theorem dX0_acceptsRounding_107 : decode cX0_acceptsRounding 107 = .ok (.aload_n 1, 1) := by decide +kernel
theorem dX0_acceptsRounding_108 : decode cX0_acceptsRounding 108 = .ok (.getfield 59, 3) := by decide +kernel
theorem dX0_acceptsRounding_111 : decode cX0_acceptsRounding 111 = .ok (.iload 4, 2) := by decide +kernel
theorem dX0_acceptsRounding_113 : decode cX0_acceptsRounding 113 = .ok (.iaload, 1) := by decide +kernel
theorem dX0_acceptsRounding_114 : decode cX0_acceptsRounding 114 = .ok (.i2l, 1) := by decide +kernel
theorem dX0_acceptsRounding_115 : decode cX0_acceptsRounding 115 = .ok (.aload_n 0, 1) := by decide +kernel
theorem dX0_acceptsRounding_116 : decode cX0_acceptsRounding 116 = .ok (.getfield 9, 3) := by decide +kernel
theorem dX0_acceptsRounding_119 : decode cX0_acceptsRounding 119 = .ok (.getfield 62, 3) := by decide +kernel
theorem dX0_acceptsRounding_122 : decode cX0_acceptsRounding 122 = .ok (.iload 4, 2) := by decide +kernel
theorem dX0_acceptsRounding_124 : decode cX0_acceptsRounding 124 = .ok (.iaload, 1) := by decide +kernel
theorem dX0_acceptsRounding_125 : decode cX0_acceptsRounding 125 = .ok (.i2l, 1) := by decide +kernel
theorem dX0_acceptsRounding_126 : decode cX0_acceptsRounding 126 = .ok (.lmul, 1) := by decide +kernel
theorem dX0_acceptsRounding_127 : decode cX0_acceptsRounding 127 = .ok (.aload_n 1, 1) := by decide +kernel
theorem dX0_acceptsRounding_128 : decode cX0_acceptsRounding 128 = .ok (.getfield 65, 3) := by decide +kernel
theorem dX0_acceptsRounding_131 : decode cX0_acceptsRounding 131 = .ok (.iload 4, 2) := by decide +kernel
theorem dX0_acceptsRounding_133 : decode cX0_acceptsRounding 133 = .ok (.iaload, 1) := by decide +kernel
theorem dX0_acceptsRounding_134 : decode cX0_acceptsRounding 134 = .ok (.i2l, 1) := by decide +kernel
theorem dX0_acceptsRounding_135 : decode cX0_acceptsRounding 135 = .ok (.aload_n 0, 1) := by decide +kernel
theorem dX0_acceptsRounding_136 : decode cX0_acceptsRounding 136 = .ok (.getfield 9, 3) := by decide +kernel
theorem dX0_acceptsRounding_139 : decode cX0_acceptsRounding 139 = .ok (.getfield 68, 3) := by decide +kernel
theorem dX0_acceptsRounding_142 : decode cX0_acceptsRounding 142 = .ok (.iload 4, 2) := by decide +kernel
theorem dX0_acceptsRounding_144 : decode cX0_acceptsRounding 144 = .ok (.iaload, 1) := by decide +kernel
theorem dX0_acceptsRounding_145 : decode cX0_acceptsRounding 145 = .ok (.i2l, 1) := by decide +kernel
theorem dX0_acceptsRounding_146 : decode cX0_acceptsRounding 146 = .ok (.lmul, 1) := by decide +kernel
theorem dX0_acceptsRounding_147 : decode cX0_acceptsRounding 147 = .ok (.lsub, 1) := by decide +kernel
theorem dX0_acceptsRounding_148 : decode cX0_acceptsRounding 148 = .ok (.ladd, 1) := by decide +kernel
theorem dX0_acceptsRounding_149 : decode cX0_acceptsRounding 149 = .ok (.lstore_n 2, 1) := by decide +kernel
theorem dX0_acceptsRounding_150 : decode cX0_acceptsRounding 150 = .ok (.iinc 4 1, 3) := by decide +kernel
theorem dX0_acceptsRounding_153 : decode cX0_acceptsRounding 153 = .ok (.goto (-86), 3) := by decide +kernel
theorem dX0_acceptsRounding_156 : decode cX0_acceptsRounding 156 = .ok (.aload_n 1, 1) := by decide +kernel
theorem dX0_acceptsRounding_157 : decode cX0_acceptsRounding 157 = .ok (.getfield 71, 3) := by decide +kernel
theorem dX0_acceptsRounding_160 : decode cX0_acceptsRounding 160 = .ok (.i2l, 1) := by decide +kernel
theorem dX0_acceptsRounding_161 : decode cX0_acceptsRounding 161 = .ok (.lload_n 2, 1) := by decide +kernel
theorem dX0_acceptsRounding_162 : decode cX0_acceptsRounding 162 = .ok (.aload_n 1, 1) := by decide +kernel
theorem dX0_acceptsRounding_163 : decode cX0_acceptsRounding 163 = .ok (.getfield 31, 3) := by decide +kernel
theorem dX0_acceptsRounding_166 : decode cX0_acceptsRounding 166 = .ok (.i2l, 1) := by decide +kernel
theorem dX0_acceptsRounding_167 : decode cX0_acceptsRounding 167 = .ok (.invokestatic 74, 3) := by decide +kernel
theorem dX0_acceptsRounding_170 : decode cX0_acceptsRounding 170 = .ok (.lcmp, 1) := by decide +kernel
theorem dX0_acceptsRounding_171 : decode cX0_acceptsRounding 171 = .ok (.ifCond .lt 7, 3) := by decide +kernel
theorem dX0_acceptsRounding_174 : decode cX0_acceptsRounding 174 = .ok (.iconst 1, 1) := by decide +kernel
theorem dX0_acceptsRounding_175 : decode cX0_acceptsRounding 175 = .ok (.goto 4, 3) := by decide +kernel
theorem dX0_acceptsRounding_178 : decode cX0_acceptsRounding 178 = .ok (.iconst 0, 1) := by decide +kernel
theorem dX0_acceptsRounding_179 : decode cX0_acceptsRounding 179 = .ok (.ireturn, 1) := by decide +kernel
theorem dX0_isTakenBelowZero_0 : decode cX0_isTakenBelowZero 0 = .ok (.iconst 0, 1) := by decide +kernel
theorem dX0_isTakenBelowZero_1 : decode cX0_isTakenBelowZero 1 = .ok (.istore_n 2, 1) := by decide +kernel
theorem dX0_isTakenBelowZero_2 : decode cX0_isTakenBelowZero 2 = .ok (.iload_n 2, 1) := by decide +kernel
theorem dX0_isTakenBelowZero_3 : decode cX0_isTakenBelowZero 3 = .ok (.aload_n 0, 1) := by decide +kernel
theorem dX0_isTakenBelowZero_4 : decode cX0_isTakenBelowZero 4 = .ok (.getfield 9, 3) := by decide +kernel
theorem dX0_isTakenBelowZero_7 : decode cX0_isTakenBelowZero 7 = .ok (.getfield 37, 3) := by decide +kernel
theorem dX0_isTakenBelowZero_10 : decode cX0_isTakenBelowZero 10 = .ok (.if_icmp .ge 20, 3) := by decide +kernel
theorem dX0_isTakenBelowZero_13 : decode cX0_isTakenBelowZero 13 = .ok (.aload_n 1, 1) := by decide +kernel
theorem dX0_isTakenBelowZero_14 : decode cX0_isTakenBelowZero 14 = .ok (.getfield 42, 3) := by decide +kernel
theorem dX0_isTakenBelowZero_17 : decode cX0_isTakenBelowZero 17 = .ok (.iload_n 2, 1) := by decide +kernel
theorem dX0_isTakenBelowZero_18 : decode cX0_isTakenBelowZero 18 = .ok (.iaload, 1) := by decide +kernel
theorem dX0_isTakenBelowZero_19 : decode cX0_isTakenBelowZero 19 = .ok (.ifCond .ge 5, 3) := by decide +kernel
theorem dX0_isTakenBelowZero_22 : decode cX0_isTakenBelowZero 22 = .ok (.iconst 1, 1) := by decide +kernel
theorem dX0_isTakenBelowZero_23 : decode cX0_isTakenBelowZero 23 = .ok (.ireturn, 1) := by decide +kernel
theorem dX0_isTakenBelowZero_24 : decode cX0_isTakenBelowZero 24 = .ok (.iinc 2 1, 3) := by decide +kernel
theorem dX0_isTakenBelowZero_27 : decode cX0_isTakenBelowZero 27 = .ok (.goto (-25), 3) := by decide +kernel
theorem dX0_isTakenBelowZero_30 : decode cX0_isTakenBelowZero 30 = .ok (.iconst 0, 1) := by decide +kernel
theorem dX0_isTakenBelowZero_31 : decode cX0_isTakenBelowZero 31 = .ok (.istore_n 2, 1) := by decide +kernel
theorem dX0_isTakenBelowZero_32 : decode cX0_isTakenBelowZero 32 = .ok (.iload_n 2, 1) := by decide +kernel
theorem dX0_isTakenBelowZero_33 : decode cX0_isTakenBelowZero 33 = .ok (.aload_n 0, 1) := by decide +kernel
theorem dX0_isTakenBelowZero_34 : decode cX0_isTakenBelowZero 34 = .ok (.getfield 9, 3) := by decide +kernel
theorem dX0_isTakenBelowZero_37 : decode cX0_isTakenBelowZero 37 = .ok (.getfield 49, 3) := by decide +kernel
theorem dX0_isTakenBelowZero_40 : decode cX0_isTakenBelowZero 40 = .ok (.if_icmp .ge 29, 3) := by decide +kernel
theorem dX0_isTakenBelowZero_43 : decode cX0_isTakenBelowZero 43 = .ok (.aload_n 1, 1) := by decide +kernel
theorem dX0_isTakenBelowZero_44 : decode cX0_isTakenBelowZero 44 = .ok (.getfield 65, 3) := by decide +kernel
theorem dX0_isTakenBelowZero_47 : decode cX0_isTakenBelowZero 47 = .ok (.iload_n 2, 1) := by decide +kernel
theorem dX0_isTakenBelowZero_48 : decode cX0_isTakenBelowZero 48 = .ok (.iaload, 1) := by decide +kernel
theorem dX0_isTakenBelowZero_49 : decode cX0_isTakenBelowZero 49 = .ok (.ifCond .lt 12, 3) := by decide +kernel
theorem dX0_isTakenBelowZero_52 : decode cX0_isTakenBelowZero 52 = .ok (.aload_n 1, 1) := by decide +kernel
theorem dX0_isTakenBelowZero_53 : decode cX0_isTakenBelowZero 53 = .ok (.getfield 59, 3) := by decide +kernel
theorem dX0_isTakenBelowZero_56 : decode cX0_isTakenBelowZero 56 = .ok (.iload_n 2, 1) := by decide +kernel
theorem dX0_isTakenBelowZero_57 : decode cX0_isTakenBelowZero 57 = .ok (.iaload, 1) := by decide +kernel
theorem dX0_isTakenBelowZero_58 : decode cX0_isTakenBelowZero 58 = .ok (.ifCond .ge 5, 3) := by decide +kernel
theorem dX0_isTakenBelowZero_61 : decode cX0_isTakenBelowZero 61 = .ok (.iconst 1, 1) := by decide +kernel
theorem dX0_isTakenBelowZero_62 : decode cX0_isTakenBelowZero 62 = .ok (.ireturn, 1) := by decide +kernel
theorem dX0_isTakenBelowZero_63 : decode cX0_isTakenBelowZero 63 = .ok (.iinc 2 1, 3) := by decide +kernel
theorem dX0_isTakenBelowZero_66 : decode cX0_isTakenBelowZero 66 = .ok (.goto (-34), 3) := by decide +kernel
theorem dX0_isTakenBelowZero_69 : decode cX0_isTakenBelowZero 69 = .ok (.iconst 0, 1) := by decide +kernel
theorem dX0_isTakenBelowZero_70 : decode cX0_isTakenBelowZero 70 = .ok (.ireturn, 1) := by decide +kernel
theorem dX0_comingFactor_0 : decode cX0_comingFactor 0 = .ok (.aload_n 1, 1) := by decide +kernel
theorem dX0_comingFactor_1 : decode cX0_comingFactor 1 = .ok (.getfield 59, 3) := by decide +kernel
theorem dX0_comingFactor_4 : decode cX0_comingFactor 4 = .ok (.iload_n 2, 1) := by decide +kernel
theorem dX0_comingFactor_5 : decode cX0_comingFactor 5 = .ok (.iaload, 1) := by decide +kernel
theorem dX0_comingFactor_6 : decode cX0_comingFactor 6 = .ok (.i2l, 1) := by decide +kernel
theorem dX0_comingFactor_7 : decode cX0_comingFactor 7 = .ok (.aload_n 1, 1) := by decide +kernel
theorem dX0_comingFactor_8 : decode cX0_comingFactor 8 = .ok (.getfield 65, 3) := by decide +kernel
theorem dX0_comingFactor_11 : decode cX0_comingFactor 11 = .ok (.iload_n 2, 1) := by decide +kernel
theorem dX0_comingFactor_12 : decode cX0_comingFactor 12 = .ok (.iaload, 1) := by decide +kernel
theorem dX0_comingFactor_13 : decode cX0_comingFactor 13 = .ok (.i2l, 1) := by decide +kernel
theorem dX0_comingFactor_14 : decode cX0_comingFactor 14 = .ok (.lsub, 1) := by decide +kernel
theorem dX0_comingFactor_15 : decode cX0_comingFactor 15 = .ok (.lstore_n 3, 1) := by decide +kernel
theorem dX0_comingFactor_16 : decode cX0_comingFactor 16 = .ok (.iconst 0, 1) := by decide +kernel
theorem dX0_comingFactor_17 : decode cX0_comingFactor 17 = .ok (.istore 5, 2) := by decide +kernel
theorem dX0_comingFactor_19 : decode cX0_comingFactor 19 = .ok (.iload 5, 2) := by decide +kernel
theorem dX0_comingFactor_21 : decode cX0_comingFactor 21 = .ok (.aload_n 0, 1) := by decide +kernel
theorem dX0_comingFactor_22 : decode cX0_comingFactor 22 = .ok (.getfield 9, 3) := by decide +kernel
theorem dX0_comingFactor_25 : decode cX0_comingFactor 25 = .ok (.getfield 37, 3) := by decide +kernel
theorem dX0_comingFactor_28 : decode cX0_comingFactor 28 = .ok (.if_icmp .ge 34, 3) := by decide +kernel
theorem dX0_comingFactor_31 : decode cX0_comingFactor 31 = .ok (.lload_n 3, 1) := by decide +kernel
theorem dX0_comingFactor_32 : decode cX0_comingFactor 32 = .ok (.aload_n 1, 1) := by decide +kernel
theorem dX0_comingFactor_33 : decode cX0_comingFactor 33 = .ok (.getfield 42, 3) := by decide +kernel
theorem dX0_comingFactor_36 : decode cX0_comingFactor 36 = .ok (.iload 5, 2) := by decide +kernel
theorem dX0_comingFactor_38 : decode cX0_comingFactor 38 = .ok (.iaload, 1) := by decide +kernel
theorem dX0_comingFactor_39 : decode cX0_comingFactor 39 = .ok (.i2l, 1) := by decide +kernel
theorem dX0_comingFactor_40 : decode cX0_comingFactor 40 = .ok (.aload_n 0, 1) := by decide +kernel
theorem dX0_comingFactor_41 : decode cX0_comingFactor 41 = .ok (.getfield 9, 3) := by decide +kernel
theorem dX0_comingFactor_44 : decode cX0_comingFactor 44 = .ok (.getfield 80, 3) := by decide +kernel
theorem dX0_comingFactor_47 : decode cX0_comingFactor 47 = .ok (.iload 5, 2) := by decide +kernel
theorem dX0_comingFactor_49 : decode cX0_comingFactor 49 = .ok (.aaload, 1) := by decide +kernel
theorem dX0_comingFactor_50 : decode cX0_comingFactor 50 = .ok (.iload_n 2, 1) := by decide +kernel
theorem dX0_comingFactor_51 : decode cX0_comingFactor 51 = .ok (.iaload, 1) := by decide +kernel
theorem dX0_comingFactor_52 : decode cX0_comingFactor 52 = .ok (.i2l, 1) := by decide +kernel
theorem dX0_comingFactor_53 : decode cX0_comingFactor 53 = .ok (.lmul, 1) := by decide +kernel
theorem dX0_comingFactor_54 : decode cX0_comingFactor 54 = .ok (.ladd, 1) := by decide +kernel
theorem dX0_comingFactor_55 : decode cX0_comingFactor 55 = .ok (.lstore_n 3, 1) := by decide +kernel
theorem dX0_comingFactor_56 : decode cX0_comingFactor 56 = .ok (.iinc 5 1, 3) := by decide +kernel
theorem dX0_comingFactor_59 : decode cX0_comingFactor 59 = .ok (.goto (-40), 3) := by decide +kernel
theorem dX0_comingFactor_62 : decode cX0_comingFactor 62 = .ok (.lload_n 3, 1) := by decide +kernel
theorem dX0_comingFactor_63 : decode cX0_comingFactor 63 = .ok (.lreturn, 1) := by decide +kernel
theorem dX0_acceptsCover_0 : decode cX0_acceptsCover 0 = .ok (.aload_n 1, 1) := by decide +kernel
theorem dX0_acceptsCover_1 : decode cX0_acceptsCover 1 = .ok (.getfield 83, 3) := by decide +kernel
theorem dX0_acceptsCover_4 : decode cX0_acceptsCover 4 = .ok (.istore_n 2, 1) := by decide +kernel
theorem dX0_acceptsCover_5 : decode cX0_acceptsCover 5 = .ok (.aload_n 0, 1) := by decide +kernel
theorem dX0_acceptsCover_6 : decode cX0_acceptsCover 6 = .ok (.getfield 9, 3) := by decide +kernel
theorem dX0_acceptsCover_9 : decode cX0_acceptsCover 9 = .ok (.iload_n 2, 1) := by decide +kernel
theorem dX0_acceptsCover_10 : decode cX0_acceptsCover 10 = .ok (.invokevirtual 86, 3) := by decide +kernel
theorem dX0_acceptsCover_13 : decode cX0_acceptsCover 13 = .ok (.ifCond .ne 5, 3) := by decide +kernel
theorem dX0_acceptsCover_16 : decode cX0_acceptsCover 16 = .ok (.iconst 0, 1) := by decide +kernel
theorem dX0_acceptsCover_17 : decode cX0_acceptsCover 17 = .ok (.ireturn, 1) := by decide +kernel
theorem dX0_acceptsCover_18 : decode cX0_acceptsCover 18 = .ok (.iconst 0, 1) := by decide +kernel
theorem dX0_acceptsCover_19 : decode cX0_acceptsCover 19 = .ok (.istore_n 3, 1) := by decide +kernel
theorem dX0_acceptsCover_20 : decode cX0_acceptsCover 20 = .ok (.iconst 0, 1) := by decide +kernel
theorem dX0_acceptsCover_21 : decode cX0_acceptsCover 21 = .ok (.istore 4, 2) := by decide +kernel
theorem dX0_acceptsCover_23 : decode cX0_acceptsCover 23 = .ok (.iconst 0, 1) := by decide +kernel
theorem dX0_acceptsCover_24 : decode cX0_acceptsCover 24 = .ok (.istore 5, 2) := by decide +kernel
theorem dX0_acceptsCover_26 : decode cX0_acceptsCover 26 = .ok (.iload 5, 2) := by decide +kernel
theorem dX0_acceptsCover_28 : decode cX0_acceptsCover 28 = .ok (.aload_n 0, 1) := by decide +kernel
theorem dX0_acceptsCover_29 : decode cX0_acceptsCover 29 = .ok (.getfield 9, 3) := by decide +kernel
theorem dX0_acceptsCover_32 : decode cX0_acceptsCover 32 = .ok (.getfield 49, 3) := by decide +kernel
theorem dX0_acceptsCover_35 : decode cX0_acceptsCover 35 = .ok (.if_icmp .ge 61, 3) := by decide +kernel
theorem dX0_acceptsCover_38 : decode cX0_acceptsCover 38 = .ok (.aload_n 1, 1) := by decide +kernel
theorem dX0_acceptsCover_39 : decode cX0_acceptsCover 39 = .ok (.getfield 52, 3) := by decide +kernel
theorem dX0_acceptsCover_42 : decode cX0_acceptsCover 42 = .ok (.iload 5, 2) := by decide +kernel
theorem dX0_acceptsCover_44 : decode cX0_acceptsCover 44 = .ok (.iaload, 1) := by decide +kernel
theorem dX0_acceptsCover_45 : decode cX0_acceptsCover 45 = .ok (.ifCond .ne 21, 3) := by decide +kernel
theorem dX0_acceptsCover_48 : decode cX0_acceptsCover 48 = .ok (.iload 4, 2) := by decide +kernel
theorem dX0_acceptsCover_50 : decode cX0_acceptsCover 50 = .ok (.aload_n 0, 1) := by decide +kernel
theorem dX0_acceptsCover_51 : decode cX0_acceptsCover 51 = .ok (.getfield 9, 3) := by decide +kernel
theorem dX0_acceptsCover_54 : decode cX0_acceptsCover 54 = .ok (.iload_n 2, 1) := by decide +kernel
theorem dX0_acceptsCover_55 : decode cX0_acceptsCover 55 = .ok (.iload 5, 2) := by decide +kernel
theorem dX0_acceptsCover_57 : decode cX0_acceptsCover 57 = .ok (.invokevirtual 90, 3) := by decide +kernel
theorem dX0_acceptsCover_60 : decode cX0_acceptsCover 60 = .ok (.iadd, 1) := by decide +kernel
theorem dX0_acceptsCover_61 : decode cX0_acceptsCover 61 = .ok (.istore 4, 2) := by decide +kernel
theorem dX0_acceptsCover_63 : decode cX0_acceptsCover 63 = .ok (.goto 27, 3) := by decide +kernel
theorem dX0_acceptsCover_66 : decode cX0_acceptsCover 66 = .ok (.aload_n 0, 1) := by decide +kernel
theorem dX0_acceptsCover_67 : decode cX0_acceptsCover 67 = .ok (.getfield 9, 3) := by decide +kernel
theorem dX0_acceptsCover_70 : decode cX0_acceptsCover 70 = .ok (.iload 5, 2) := by decide +kernel
theorem dX0_acceptsCover_72 : decode cX0_acceptsCover 72 = .ok (.invokevirtual 94, 3) := by decide +kernel
theorem dX0_acceptsCover_75 : decode cX0_acceptsCover 75 = .ok (.ifCond .eq 13, 3) := by decide +kernel
theorem dX0_acceptsCover_78 : decode cX0_acceptsCover 78 = .ok (.iload_n 3, 1) := by decide +kernel
theorem dX0_acceptsCover_79 : decode cX0_acceptsCover 79 = .ok (.iconst 1, 1) := by decide +kernel
theorem dX0_acceptsCover_80 : decode cX0_acceptsCover 80 = .ok (.iload 5, 2) := by decide +kernel
theorem dX0_acceptsCover_82 : decode cX0_acceptsCover 82 = .ok (.ishl, 1) := by decide +kernel
theorem dX0_acceptsCover_83 : decode cX0_acceptsCover 83 = .ok (.ior, 1) := by decide +kernel
theorem dX0_acceptsCover_84 : decode cX0_acceptsCover 84 = .ok (.istore_n 3, 1) := by decide +kernel
theorem dX0_acceptsCover_85 : decode cX0_acceptsCover 85 = .ok (.goto 5, 3) := by decide +kernel
theorem dX0_acceptsCover_88 : decode cX0_acceptsCover 88 = .ok (.iconst 0, 1) := by decide +kernel
theorem dX0_acceptsCover_89 : decode cX0_acceptsCover 89 = .ok (.ireturn, 1) := by decide +kernel
theorem dX0_acceptsCover_90 : decode cX0_acceptsCover 90 = .ok (.iinc 5 1, 3) := by decide +kernel
theorem dX0_acceptsCover_93 : decode cX0_acceptsCover 93 = .ok (.goto (-67), 3) := by decide +kernel
theorem dX0_acceptsCover_96 : decode cX0_acceptsCover 96 = .ok (.aload_n 0, 1) := by decide +kernel
theorem dX0_acceptsCover_97 : decode cX0_acceptsCover 97 = .ok (.getfield 9, 3) := by decide +kernel
theorem dX0_acceptsCover_100 : decode cX0_acceptsCover 100 = .ok (.getfield 46, 3) := by decide +kernel
theorem dX0_acceptsCover_103 : decode cX0_acceptsCover 103 = .ok (.iload_n 2, 1) := by decide +kernel
theorem dX0_acceptsCover_104 : decode cX0_acceptsCover 104 = .ok (.iaload, 1) := by decide +kernel
theorem dX0_acceptsCover_105 : decode cX0_acceptsCover 105 = .ok (.iload 4, 2) := by decide +kernel
theorem dX0_acceptsCover_107 : decode cX0_acceptsCover 107 = .ok (.isub, 1) := by decide +kernel
theorem dX0_acceptsCover_108 : decode cX0_acceptsCover 108 = .ok (.istore 5, 2) := by decide +kernel
theorem dX0_acceptsCover_110 : decode cX0_acceptsCover 110 = .ok (.iconst 0, 1) := by decide +kernel
theorem dX0_acceptsCover_111 : decode cX0_acceptsCover 111 = .ok (.istore 6, 2) := by decide +kernel
theorem dX0_acceptsCover_113 : decode cX0_acceptsCover 113 = .ok (.iload 6, 2) := by decide +kernel
theorem dX0_acceptsCover_115 : decode cX0_acceptsCover 115 = .ok (.iload_n 3, 1) := by decide +kernel
theorem dX0_acceptsCover_116 : decode cX0_acceptsCover 116 = .ok (.if_icmp .gt 60, 3) := by decide +kernel
theorem dX0_acceptsCover_119 : decode cX0_acceptsCover 119 = .ok (.iload 6, 2) := by decide +kernel
theorem dX0_acceptsCover_121 : decode cX0_acceptsCover 121 = .ok (.iload_n 3, 1) := by decide +kernel
theorem dX0_acceptsCover_122 : decode cX0_acceptsCover 122 = .ok (.iconst (-1), 1) := by decide +kernel
theorem dX0_acceptsCover_123 : decode cX0_acceptsCover 123 = .ok (.ixor, 1) := by decide +kernel
theorem dX0_acceptsCover_124 : decode cX0_acceptsCover 124 = .ok (.iand, 1) := by decide +kernel
theorem dX0_acceptsCover_125 : decode cX0_acceptsCover 125 = .ok (.ifCond .ne 45, 3) := by decide +kernel
theorem dX0_acceptsCover_128 : decode cX0_acceptsCover 128 = .ok (.aload_n 0, 1) := by decide +kernel
theorem dX0_acceptsCover_129 : decode cX0_acceptsCover 129 = .ok (.aload_n 0, 1) := by decide +kernel
theorem dX0_acceptsCover_130 : decode cX0_acceptsCover 130 = .ok (.getfield 9, 3) := by decide +kernel
theorem dX0_acceptsCover_133 : decode cX0_acceptsCover 133 = .ok (.getfield 80, 3) := by decide +kernel
theorem dX0_acceptsCover_136 : decode cX0_acceptsCover 136 = .ok (.iload_n 2, 1) := by decide +kernel
theorem dX0_acceptsCover_137 : decode cX0_acceptsCover 137 = .ok (.aaload, 1) := by decide +kernel
theorem dX0_acceptsCover_138 : decode cX0_acceptsCover 138 = .ok (.iload 6, 2) := by decide +kernel
theorem dX0_acceptsCover_140 : decode cX0_acceptsCover 140 = .ok (.invokevirtual 97, 3) := by decide +kernel
theorem dX0_acceptsCover_143 : decode cX0_acceptsCover 143 = .ok (.iload 5, 2) := by decide +kernel
theorem dX0_acceptsCover_145 : decode cX0_acceptsCover 145 = .ok (.if_icmp .le 6, 3) := by decide +kernel
theorem dX0_acceptsCover_148 : decode cX0_acceptsCover 148 = .ok (.goto 22, 3) := by decide +kernel
theorem dX0_acceptsCover_151 : decode cX0_acceptsCover 151 = .ok (.aload_n 0, 1) := by decide +kernel
theorem dX0_acceptsCover_152 : decode cX0_acceptsCover 152 = .ok (.aload_n 1, 1) := by decide +kernel
theorem dX0_acceptsCover_153 : decode cX0_acceptsCover 153 = .ok (.getfield 52, 3) := by decide +kernel
theorem dX0_acceptsCover_156 : decode cX0_acceptsCover 156 = .ok (.iload 6, 2) := by decide +kernel
theorem dX0_acceptsCover_158 : decode cX0_acceptsCover 158 = .ok (.invokevirtual 97, 3) := by decide +kernel
theorem dX0_acceptsCover_161 : decode cX0_acceptsCover 161 = .ok (.aload_n 1, 1) := by decide +kernel
theorem dX0_acceptsCover_162 : decode cX0_acceptsCover 162 = .ok (.getfield 71, 3) := by decide +kernel
theorem dX0_acceptsCover_165 : decode cX0_acceptsCover 165 = .ok (.if_icmp .le 5, 3) := by decide +kernel
theorem dX0_acceptsCover_168 : decode cX0_acceptsCover 168 = .ok (.iconst 0, 1) := by decide +kernel
theorem dX0_acceptsCover_169 : decode cX0_acceptsCover 169 = .ok (.ireturn, 1) := by decide +kernel
theorem dX0_acceptsCover_170 : decode cX0_acceptsCover 170 = .ok (.iinc 6 1, 3) := by decide +kernel
theorem dX0_acceptsCover_173 : decode cX0_acceptsCover 173 = .ok (.goto (-60), 3) := by decide +kernel
theorem dX0_acceptsCover_176 : decode cX0_acceptsCover 176 = .ok (.iconst 1, 1) := by decide +kernel
theorem dX0_acceptsCover_177 : decode cX0_acceptsCover 177 = .ok (.ireturn, 1) := by decide +kernel
theorem dX0_sumOver_0 : decode cX0_sumOver 0 = .ok (.iconst 0, 1) := by decide +kernel
theorem dX0_sumOver_1 : decode cX0_sumOver 1 = .ok (.istore_n 3, 1) := by decide +kernel
theorem dX0_sumOver_2 : decode cX0_sumOver 2 = .ok (.iconst 0, 1) := by decide +kernel
theorem dX0_sumOver_3 : decode cX0_sumOver 3 = .ok (.istore 4, 2) := by decide +kernel
theorem dX0_sumOver_5 : decode cX0_sumOver 5 = .ok (.iload 4, 2) := by decide +kernel
theorem dX0_sumOver_7 : decode cX0_sumOver 7 = .ok (.aload_n 0, 1) := by decide +kernel
theorem dX0_sumOver_8 : decode cX0_sumOver 8 = .ok (.getfield 9, 3) := by decide +kernel
theorem dX0_sumOver_11 : decode cX0_sumOver 11 = .ok (.getfield 49, 3) := by decide +kernel
theorem dX0_sumOver_14 : decode cX0_sumOver 14 = .ok (.if_icmp .ge 25, 3) := by decide +kernel
theorem dX0_sumOver_17 : decode cX0_sumOver 17 = .ok (.iload_n 2, 1) := by decide +kernel
theorem dX0_sumOver_18 : decode cX0_sumOver 18 = .ok (.iload 4, 2) := by decide +kernel
theorem dX0_sumOver_20 : decode cX0_sumOver 20 = .ok (.invokestatic 101, 3) := by decide +kernel
theorem dX0_sumOver_23 : decode cX0_sumOver 23 = .ok (.ifCond .eq 10, 3) := by decide +kernel
theorem dX0_sumOver_26 : decode cX0_sumOver 26 = .ok (.iload_n 3, 1) := by decide +kernel
theorem dX0_sumOver_27 : decode cX0_sumOver 27 = .ok (.aload_n 1, 1) := by decide +kernel
theorem dX0_sumOver_28 : decode cX0_sumOver 28 = .ok (.iload 4, 2) := by decide +kernel
theorem dX0_sumOver_30 : decode cX0_sumOver 30 = .ok (.iaload, 1) := by decide +kernel
theorem dX0_sumOver_31 : decode cX0_sumOver 31 = .ok (.iadd, 1) := by decide +kernel
theorem dX0_sumOver_32 : decode cX0_sumOver 32 = .ok (.istore_n 3, 1) := by decide +kernel
theorem dX0_sumOver_33 : decode cX0_sumOver 33 = .ok (.iinc 4 1, 3) := by decide +kernel
theorem dX0_sumOver_36 : decode cX0_sumOver 36 = .ok (.goto (-31), 3) := by decide +kernel
theorem dX0_sumOver_39 : decode cX0_sumOver 39 = .ok (.iload_n 3, 1) := by decide +kernel
theorem dX0_sumOver_40 : decode cX0_sumOver 40 = .ok (.ireturn, 1) := by decide +kernel
theorem dX0_acceptsClique_0 : decode cX0_acceptsClique 0 = .ok (.aload_n 1, 1) := by decide +kernel
theorem dX0_acceptsClique_1 : decode cX0_acceptsClique 1 = .ok (.getfield 71, 3) := by decide +kernel
theorem dX0_acceptsClique_4 : decode cX0_acceptsClique 4 = .ok (.iconst 1, 1) := by decide +kernel
theorem dX0_acceptsClique_5 : decode cX0_acceptsClique 5 = .ok (.if_icmp .ge 5, 3) := by decide +kernel
theorem dX0_acceptsClique_8 : decode cX0_acceptsClique 8 = .ok (.iconst 0, 1) := by decide +kernel
theorem dX0_acceptsClique_9 : decode cX0_acceptsClique 9 = .ok (.ireturn, 1) := by decide +kernel
theorem dX0_acceptsClique_10 : decode cX0_acceptsClique 10 = .ok (.iconst 0, 1) := by decide +kernel
theorem dX0_acceptsClique_11 : decode cX0_acceptsClique 11 = .ok (.istore_n 2, 1) := by decide +kernel
theorem dX0_acceptsClique_12 : decode cX0_acceptsClique 12 = .ok (.iload_n 2, 1) := by decide +kernel
theorem dX0_acceptsClique_13 : decode cX0_acceptsClique 13 = .ok (.aload_n 0, 1) := by decide +kernel
theorem dX0_acceptsClique_14 : decode cX0_acceptsClique 14 = .ok (.getfield 9, 3) := by decide +kernel
theorem dX0_acceptsClique_17 : decode cX0_acceptsClique 17 = .ok (.getfield 49, 3) := by decide +kernel
theorem dX0_acceptsClique_20 : decode cX0_acceptsClique 20 = .ok (.if_icmp .ge 81, 3) := by decide +kernel
theorem dX0_acceptsClique_23 : decode cX0_acceptsClique 23 = .ok (.aload_n 1, 1) := by decide +kernel
theorem dX0_acceptsClique_24 : decode cX0_acceptsClique 24 = .ok (.getfield 52, 3) := by decide +kernel
theorem dX0_acceptsClique_27 : decode cX0_acceptsClique 27 = .ok (.iload_n 2, 1) := by decide +kernel
theorem dX0_acceptsClique_28 : decode cX0_acceptsClique 28 = .ok (.iaload, 1) := by decide +kernel
theorem dX0_acceptsClique_29 : decode cX0_acceptsClique 29 = .ok (.ifCond .ne 6, 3) := by decide +kernel
theorem dX0_acceptsClique_32 : decode cX0_acceptsClique 32 = .ok (.goto 63, 3) := by decide +kernel
theorem dX0_acceptsClique_35 : decode cX0_acceptsClique 35 = .ok (.aload_n 1, 1) := by decide +kernel
theorem dX0_acceptsClique_36 : decode cX0_acceptsClique 36 = .ok (.getfield 52, 3) := by decide +kernel
theorem dX0_acceptsClique_39 : decode cX0_acceptsClique 39 = .ok (.iload_n 2, 1) := by decide +kernel
theorem dX0_acceptsClique_40 : decode cX0_acceptsClique 40 = .ok (.iaload, 1) := by decide +kernel
theorem dX0_acceptsClique_41 : decode cX0_acceptsClique 41 = .ok (.iconst 1, 1) := by decide +kernel
theorem dX0_acceptsClique_42 : decode cX0_acceptsClique 42 = .ok (.if_icmp .ne 14, 3) := by decide +kernel
theorem dX0_acceptsClique_45 : decode cX0_acceptsClique 45 = .ok (.aload_n 0, 1) := by decide +kernel
theorem dX0_acceptsClique_46 : decode cX0_acceptsClique 46 = .ok (.getfield 9, 3) := by decide +kernel
theorem dX0_acceptsClique_49 : decode cX0_acceptsClique 49 = .ok (.iload_n 2, 1) := by decide +kernel
theorem dX0_acceptsClique_50 : decode cX0_acceptsClique 50 = .ok (.invokevirtual 94, 3) := by decide +kernel
theorem dX0_acceptsClique_53 : decode cX0_acceptsClique 53 = .ok (.ifCond .ne 5, 3) := by decide +kernel
theorem dX0_acceptsClique_56 : decode cX0_acceptsClique 56 = .ok (.iconst 0, 1) := by decide +kernel
theorem dX0_acceptsClique_57 : decode cX0_acceptsClique 57 = .ok (.ireturn, 1) := by decide +kernel
theorem dX0_acceptsClique_58 : decode cX0_acceptsClique 58 = .ok (.iconst 0, 1) := by decide +kernel
theorem dX0_acceptsClique_59 : decode cX0_acceptsClique 59 = .ok (.istore_n 3, 1) := by decide +kernel
theorem dX0_acceptsClique_60 : decode cX0_acceptsClique 60 = .ok (.iload_n 3, 1) := by decide +kernel
theorem dX0_acceptsClique_61 : decode cX0_acceptsClique 61 = .ok (.iload_n 2, 1) := by decide +kernel
theorem dX0_acceptsClique_62 : decode cX0_acceptsClique 62 = .ok (.if_icmp .ge 33, 3) := by decide +kernel
theorem dX0_acceptsClique_65 : decode cX0_acceptsClique 65 = .ok (.aload_n 1, 1) := by decide +kernel
theorem dX0_acceptsClique_66 : decode cX0_acceptsClique 66 = .ok (.getfield 52, 3) := by decide +kernel
theorem dX0_acceptsClique_69 : decode cX0_acceptsClique 69 = .ok (.iload_n 3, 1) := by decide +kernel
theorem dX0_acceptsClique_70 : decode cX0_acceptsClique 70 = .ok (.iaload, 1) := by decide +kernel
theorem dX0_acceptsClique_71 : decode cX0_acceptsClique 71 = .ok (.iconst 1, 1) := by decide +kernel
theorem dX0_acceptsClique_72 : decode cX0_acceptsClique 72 = .ok (.if_icmp .ne 17, 3) := by decide +kernel
theorem dX0_acceptsClique_75 : decode cX0_acceptsClique 75 = .ok (.aload_n 0, 1) := by decide +kernel
theorem dX0_acceptsClique_76 : decode cX0_acceptsClique 76 = .ok (.getfield 9, 3) := by decide +kernel
theorem dX0_acceptsClique_79 : decode cX0_acceptsClique 79 = .ok (.iload_n 3, 1) := by decide +kernel
theorem dX0_acceptsClique_80 : decode cX0_acceptsClique 80 = .ok (.iload_n 2, 1) := by decide +kernel
theorem dX0_acceptsClique_81 : decode cX0_acceptsClique 81 = .ok (.invokevirtual 105, 3) := by decide +kernel
theorem dX0_acceptsClique_84 : decode cX0_acceptsClique 84 = .ok (.ifCond .ne 5, 3) := by decide +kernel
theorem dX0_acceptsClique_87 : decode cX0_acceptsClique 87 = .ok (.iconst 0, 1) := by decide +kernel
theorem dX0_acceptsClique_88 : decode cX0_acceptsClique 88 = .ok (.ireturn, 1) := by decide +kernel
theorem dX0_acceptsClique_89 : decode cX0_acceptsClique 89 = .ok (.iinc 3 1, 3) := by decide +kernel
theorem dX0_acceptsClique_92 : decode cX0_acceptsClique 92 = .ok (.goto (-32), 3) := by decide +kernel
theorem dX0_acceptsClique_95 : decode cX0_acceptsClique 95 = .ok (.iinc 2 1, 3) := by decide +kernel
theorem dX0_acceptsClique_98 : decode cX0_acceptsClique 98 = .ok (.goto (-86), 3) := by decide +kernel
theorem dX0_acceptsClique_101 : decode cX0_acceptsClique 101 = .ok (.iconst 1, 1) := by decide +kernel
theorem dX0_acceptsClique_102 : decode cX0_acceptsClique 102 = .ok (.ireturn, 1) := by decide +kernel
theorem dX1_init_0 : decode cX1_init 0 = .ok (.aload_n 0, 1) := by decide +kernel
theorem dX1_init_1 : decode cX1_init 1 = .ok (.invokespecial 3, 3) := by decide +kernel
theorem dX1_init_4 : decode cX1_init 4 = .ok (.aload_n 0, 1) := by decide +kernel
theorem dX1_init_5 : decode cX1_init 5 = .ok (.bipush 8, 2) := by decide +kernel
theorem dX1_init_7 : decode cX1_init 7 = .ok (.newarray .int, 2) := by decide +kernel
theorem dX1_init_9 : decode cX1_init 9 = .ok (.putfield 9, 3) := by decide +kernel
theorem dX1_init_12 : decode cX1_init 12 = .ok (.aload_n 0, 1) := by decide +kernel
theorem dX1_init_13 : decode cX1_init 13 = .ok (.bipush 10, 2) := by decide +kernel
theorem dX1_init_15 : decode cX1_init 15 = .ok (.newarray .int, 2) := by decide +kernel
theorem dX1_init_17 : decode cX1_init 17 = .ok (.putfield 15, 3) := by decide +kernel
theorem dX1_init_20 : decode cX1_init 20 = .ok (.aload_n 0, 1) := by decide +kernel
theorem dX1_init_21 : decode cX1_init 21 = .ok (.aload_n 1, 1) := by decide +kernel
theorem dX1_init_22 : decode cX1_init 22 = .ok (.putfield 18, 3) := by decide +kernel
theorem dX1_init_25 : decode cX1_init 25 = .ok (.return_, 1) := by decide +kernel
theorem dX1_begin_0 : decode cX1_begin 0 = .ok (.aload_n 0, 1) := by decide +kernel
theorem dX1_begin_1 : decode cX1_begin 1 = .ok (.getfield 15, 3) := by decide +kernel
theorem dX1_begin_4 : decode cX1_begin 4 = .ok (.iconst 0, 1) := by decide +kernel
theorem dX1_begin_5 : decode cX1_begin 5 = .ok (.invokestatic 22, 3) := by decide +kernel
theorem dX1_begin_8 : decode cX1_begin 8 = .ok (.aload_n 0, 1) := by decide +kernel
theorem dX1_begin_9 : decode cX1_begin 9 = .ok (.getfield 9, 3) := by decide +kernel
theorem dX1_begin_12 : decode cX1_begin 12 = .ok (.iconst 0, 1) := by decide +kernel
theorem dX1_begin_13 : decode cX1_begin 13 = .ok (.invokestatic 22, 3) := by decide +kernel
theorem dX1_begin_16 : decode cX1_begin 16 = .ok (.iconst 0, 1) := by decide +kernel
theorem dX1_begin_17 : decode cX1_begin 17 = .ok (.istore_n 1, 1) := by decide +kernel
theorem dX1_begin_18 : decode cX1_begin 18 = .ok (.iload_n 1, 1) := by decide +kernel
theorem dX1_begin_19 : decode cX1_begin 19 = .ok (.aload_n 0, 1) := by decide +kernel
theorem dX1_begin_20 : decode cX1_begin 20 = .ok (.getfield 18, 3) := by decide +kernel
theorem dX1_begin_23 : decode cX1_begin 23 = .ok (.getfield 28, 3) := by decide +kernel
theorem dX1_begin_26 : decode cX1_begin 26 = .ok (.if_icmp .ge 23, 3) := by decide +kernel
theorem dX1_begin_29 : decode cX1_begin 29 = .ok (.aload_n 0, 1) := by decide +kernel
theorem dX1_begin_30 : decode cX1_begin 30 = .ok (.iload_n 1, 1) := by decide +kernel
theorem dX1_begin_31 : decode cX1_begin 31 = .ok (.aload_n 0, 1) := by decide +kernel
theorem dX1_begin_32 : decode cX1_begin 32 = .ok (.getfield 18, 3) := by decide +kernel
theorem dX1_begin_35 : decode cX1_begin 35 = .ok (.getfield 34, 3) := by decide +kernel
theorem dX1_begin_38 : decode cX1_begin 38 = .ok (.iload_n 1, 1) := by decide +kernel
theorem dX1_begin_39 : decode cX1_begin 39 = .ok (.iaload, 1) := by decide +kernel
theorem dX1_begin_40 : decode cX1_begin 40 = .ok (.invokevirtual 37, 3) := by decide +kernel
theorem dX1_begin_43 : decode cX1_begin 43 = .ok (.iinc 1 1, 3) := by decide +kernel
theorem dX1_begin_46 : decode cX1_begin 46 = .ok (.goto (-28), 3) := by decide +kernel
theorem dX1_begin_49 : decode cX1_begin 49 = .ok (.return_, 1) := by decide +kernel
theorem dX1_advance_0 : decode cX1_advance 0 = .ok (.iconst 0, 1) := by decide +kernel
theorem dX1_advance_1 : decode cX1_advance 1 = .ok (.istore_n 1, 1) := by decide +kernel
theorem dX1_advance_2 : decode cX1_advance 2 = .ok (.iload_n 1, 1) := by decide +kernel
theorem dX1_advance_3 : decode cX1_advance 3 = .ok (.aload_n 0, 1) := by decide +kernel
theorem dX1_advance_4 : decode cX1_advance 4 = .ok (.getfield 18, 3) := by decide +kernel
theorem dX1_advance_7 : decode cX1_advance 7 = .ok (.getfield 28, 3) := by decide +kernel
theorem dX1_advance_10 : decode cX1_advance 10 = .ok (.if_icmp .ge 55, 3) := by decide +kernel
theorem dX1_advance_13 : decode cX1_advance 13 = .ok (.aload_n 0, 1) := by decide +kernel
theorem dX1_advance_14 : decode cX1_advance 14 = .ok (.getfield 9, 3) := by decide +kernel
theorem dX1_advance_17 : decode cX1_advance 17 = .ok (.iload_n 1, 1) := by decide +kernel
theorem dX1_advance_18 : decode cX1_advance 18 = .ok (.iaload, 1) := by decide +kernel
theorem dX1_advance_19 : decode cX1_advance 19 = .ok (.aload_n 0, 1) := by decide +kernel
theorem dX1_advance_20 : decode cX1_advance 20 = .ok (.getfield 18, 3) := by decide +kernel
theorem dX1_advance_23 : decode cX1_advance 23 = .ok (.getfield 41, 3) := by decide +kernel
theorem dX1_advance_26 : decode cX1_advance 26 = .ok (.iload_n 1, 1) := by decide +kernel
theorem dX1_advance_27 : decode cX1_advance 27 = .ok (.iaload, 1) := by decide +kernel
theorem dX1_advance_28 : decode cX1_advance 28 = .ok (.if_icmp .ge 17, 3) := by decide +kernel
theorem dX1_advance_31 : decode cX1_advance 31 = .ok (.aload_n 0, 1) := by decide +kernel
theorem dX1_advance_32 : decode cX1_advance 32 = .ok (.iload_n 1, 1) := by decide +kernel
theorem dX1_advance_33 : decode cX1_advance 33 = .ok (.aload_n 0, 1) := by decide +kernel
theorem dX1_advance_34 : decode cX1_advance 34 = .ok (.getfield 9, 3) := by decide +kernel
theorem dX1_advance_37 : decode cX1_advance 37 = .ok (.iload_n 1, 1) := by decide +kernel
theorem dX1_advance_38 : decode cX1_advance 38 = .ok (.iaload, 1) := by decide +kernel
theorem dX1_advance_39 : decode cX1_advance 39 = .ok (.iconst 1, 1) := by decide +kernel
theorem dX1_advance_40 : decode cX1_advance 40 = .ok (.iadd, 1) := by decide +kernel
theorem dX1_advance_41 : decode cX1_advance 41 = .ok (.invokevirtual 37, 3) := by decide +kernel
theorem dX1_advance_44 : decode cX1_advance 44 = .ok (.return_, 1) := by decide +kernel
theorem dX1_advance_45 : decode cX1_advance 45 = .ok (.aload_n 0, 1) := by decide +kernel
theorem dX1_advance_46 : decode cX1_advance 46 = .ok (.iload_n 1, 1) := by decide +kernel
theorem dX1_advance_47 : decode cX1_advance 47 = .ok (.aload_n 0, 1) := by decide +kernel
theorem dX1_advance_48 : decode cX1_advance 48 = .ok (.getfield 18, 3) := by decide +kernel
theorem dX1_advance_51 : decode cX1_advance 51 = .ok (.getfield 34, 3) := by decide +kernel
theorem dX1_advance_54 : decode cX1_advance 54 = .ok (.iload_n 1, 1) := by decide +kernel
theorem dX1_advance_55 : decode cX1_advance 55 = .ok (.iaload, 1) := by decide +kernel
theorem dX1_advance_56 : decode cX1_advance 56 = .ok (.invokevirtual 37, 3) := by decide +kernel
theorem dX1_advance_59 : decode cX1_advance 59 = .ok (.iinc 1 1, 3) := by decide +kernel
theorem dX1_advance_62 : decode cX1_advance 62 = .ok (.goto (-60), 3) := by decide +kernel
theorem dX1_advance_65 : decode cX1_advance 65 = .ok (.return_, 1) := by decide +kernel
theorem dX1_choose_0 : decode cX1_choose 0 = .ok (.iload_n 2, 1) := by decide +kernel
theorem dX1_choose_1 : decode cX1_choose 1 = .ok (.aload_n 0, 1) := by decide +kernel
theorem dX1_choose_2 : decode cX1_choose 2 = .ok (.getfield 9, 3) := by decide +kernel
theorem dX1_choose_5 : decode cX1_choose 5 = .ok (.iload_n 1, 1) := by decide +kernel
theorem dX1_choose_6 : decode cX1_choose 6 = .ok (.iaload, 1) := by decide +kernel
theorem dX1_choose_7 : decode cX1_choose 7 = .ok (.isub, 1) := by decide +kernel
theorem dX1_choose_8 : decode cX1_choose 8 = .ok (.istore_n 3, 1) := by decide +kernel
theorem dX1_choose_9 : decode cX1_choose 9 = .ok (.aload_n 0, 1) := by decide +kernel
theorem dX1_choose_10 : decode cX1_choose 10 = .ok (.getfield 9, 3) := by decide +kernel
theorem dX1_choose_13 : decode cX1_choose 13 = .ok (.iload_n 1, 1) := by decide +kernel
theorem dX1_choose_14 : decode cX1_choose 14 = .ok (.iload_n 2, 1) := by decide +kernel
theorem dX1_choose_15 : decode cX1_choose 15 = .ok (.iastore, 1) := by decide +kernel
theorem dX1_choose_16 : decode cX1_choose 16 = .ok (.iconst 0, 1) := by decide +kernel
theorem dX1_choose_17 : decode cX1_choose 17 = .ok (.istore 4, 2) := by decide +kernel
theorem dX1_choose_19 : decode cX1_choose 19 = .ok (.iload 4, 2) := by decide +kernel
theorem dX1_choose_21 : decode cX1_choose 21 = .ok (.aload_n 0, 1) := by decide +kernel
theorem dX1_choose_22 : decode cX1_choose 22 = .ok (.getfield 18, 3) := by decide +kernel
theorem dX1_choose_25 : decode cX1_choose 25 = .ok (.getfield 44, 3) := by decide +kernel
theorem dX1_choose_28 : decode cX1_choose 28 = .ok (.if_icmp .ge 33, 3) := by decide +kernel
theorem dX1_choose_31 : decode cX1_choose 31 = .ok (.aload_n 0, 1) := by decide +kernel
theorem dX1_choose_32 : decode cX1_choose 32 = .ok (.getfield 15, 3) := by decide +kernel
theorem dX1_choose_35 : decode cX1_choose 35 = .ok (.iload 4, 2) := by decide +kernel
theorem dX1_choose_37 : decode cX1_choose 37 = .ok (.dup2, 1) := by decide +kernel
theorem dX1_choose_38 : decode cX1_choose 38 = .ok (.iaload, 1) := by decide +kernel
theorem dX1_choose_39 : decode cX1_choose 39 = .ok (.iload_n 3, 1) := by decide +kernel
theorem dX1_choose_40 : decode cX1_choose 40 = .ok (.aload_n 0, 1) := by decide +kernel
theorem dX1_choose_41 : decode cX1_choose 41 = .ok (.getfield 18, 3) := by decide +kernel
theorem dX1_choose_44 : decode cX1_choose 44 = .ok (.getfield 47, 3) := by decide +kernel
theorem dX1_choose_47 : decode cX1_choose 47 = .ok (.iload 4, 2) := by decide +kernel
theorem dX1_choose_49 : decode cX1_choose 49 = .ok (.aaload, 1) := by decide +kernel
theorem dX1_choose_50 : decode cX1_choose 50 = .ok (.iload_n 1, 1) := by decide +kernel
theorem dX1_choose_51 : decode cX1_choose 51 = .ok (.iaload, 1) := by decide +kernel
theorem dX1_choose_52 : decode cX1_choose 52 = .ok (.imul, 1) := by decide +kernel
theorem dX1_choose_53 : decode cX1_choose 53 = .ok (.iadd, 1) := by decide +kernel
theorem dX1_choose_54 : decode cX1_choose 54 = .ok (.iastore, 1) := by decide +kernel
theorem dX1_choose_55 : decode cX1_choose 55 = .ok (.iinc 4 1, 3) := by decide +kernel
theorem dX1_choose_58 : decode cX1_choose 58 = .ok (.goto (-39), 3) := by decide +kernel
theorem dX1_choose_61 : decode cX1_choose 61 = .ok (.return_, 1) := by decide +kernel
theorem dX1_isPlan_0 : decode cX1_isPlan 0 = .ok (.iconst 0, 1) := by decide +kernel
theorem dX1_isPlan_1 : decode cX1_isPlan 1 = .ok (.istore_n 1, 1) := by decide +kernel
theorem dX1_isPlan_2 : decode cX1_isPlan 2 = .ok (.iload_n 1, 1) := by decide +kernel
theorem dX1_isPlan_3 : decode cX1_isPlan 3 = .ok (.aload_n 0, 1) := by decide +kernel
theorem dX1_isPlan_4 : decode cX1_isPlan 4 = .ok (.getfield 18, 3) := by decide +kernel
theorem dX1_isPlan_7 : decode cX1_isPlan 7 = .ok (.getfield 44, 3) := by decide +kernel
theorem dX1_isPlan_10 : decode cX1_isPlan 10 = .ok (.if_icmp .ge 29, 3) := by decide +kernel
theorem dX1_isPlan_13 : decode cX1_isPlan 13 = .ok (.aload_n 0, 1) := by decide +kernel
theorem dX1_isPlan_14 : decode cX1_isPlan 14 = .ok (.getfield 15, 3) := by decide +kernel
theorem dX1_isPlan_17 : decode cX1_isPlan 17 = .ok (.iload_n 1, 1) := by decide +kernel
theorem dX1_isPlan_18 : decode cX1_isPlan 18 = .ok (.iaload, 1) := by decide +kernel
theorem dX1_isPlan_19 : decode cX1_isPlan 19 = .ok (.aload_n 0, 1) := by decide +kernel
theorem dX1_isPlan_20 : decode cX1_isPlan 20 = .ok (.getfield 18, 3) := by decide +kernel
theorem dX1_isPlan_23 : decode cX1_isPlan 23 = .ok (.getfield 51, 3) := by decide +kernel
theorem dX1_isPlan_26 : decode cX1_isPlan 26 = .ok (.iload_n 1, 1) := by decide +kernel
theorem dX1_isPlan_27 : decode cX1_isPlan 27 = .ok (.iaload, 1) := by decide +kernel
theorem dX1_isPlan_28 : decode cX1_isPlan 28 = .ok (.if_icmp .le 5, 3) := by decide +kernel
theorem dX1_isPlan_31 : decode cX1_isPlan 31 = .ok (.iconst 0, 1) := by decide +kernel
theorem dX1_isPlan_32 : decode cX1_isPlan 32 = .ok (.ireturn, 1) := by decide +kernel
theorem dX1_isPlan_33 : decode cX1_isPlan 33 = .ok (.iinc 1 1, 3) := by decide +kernel
theorem dX1_isPlan_36 : decode cX1_isPlan 36 = .ok (.goto (-34), 3) := by decide +kernel
theorem dX1_isPlan_39 : decode cX1_isPlan 39 = .ok (.iconst 1, 1) := by decide +kernel
theorem dX1_isPlan_40 : decode cX1_isPlan 40 = .ok (.ireturn, 1) := by decide +kernel
theorem dX1_keeps_0 : decode cX1_keeps 0 = .ok (.iconst 0, 1) := by decide +kernel
theorem dX1_keeps_1 : decode cX1_keeps 1 = .ok (.istore_n 2, 1) := by decide +kernel
theorem dX1_keeps_2 : decode cX1_keeps 2 = .ok (.iconst 0, 1) := by decide +kernel
theorem dX1_keeps_3 : decode cX1_keeps 3 = .ok (.istore_n 3, 1) := by decide +kernel
theorem dX1_keeps_4 : decode cX1_keeps 4 = .ok (.iload_n 3, 1) := by decide +kernel
theorem dX1_keeps_5 : decode cX1_keeps 5 = .ok (.aload_n 0, 1) := by decide +kernel
theorem dX1_keeps_6 : decode cX1_keeps 6 = .ok (.getfield 18, 3) := by decide +kernel
theorem dX1_keeps_9 : decode cX1_keeps 9 = .ok (.getfield 28, 3) := by decide +kernel
theorem dX1_keeps_12 : decode cX1_keeps 12 = .ok (.if_icmp .ge 25, 3) := by decide +kernel
theorem dX1_keeps_15 : decode cX1_keeps 15 = .ok (.iload_n 2, 1) := by decide +kernel
theorem dX1_keeps_16 : decode cX1_keeps 16 = .ok (.aload_n 1, 1) := by decide +kernel
theorem dX1_keeps_17 : decode cX1_keeps 17 = .ok (.getfield 54, 3) := by decide +kernel
theorem dX1_keeps_20 : decode cX1_keeps 20 = .ok (.iload_n 3, 1) := by decide +kernel
theorem dX1_keeps_21 : decode cX1_keeps 21 = .ok (.iaload, 1) := by decide +kernel
theorem dX1_keeps_22 : decode cX1_keeps 22 = .ok (.aload_n 0, 1) := by decide +kernel
theorem dX1_keeps_23 : decode cX1_keeps 23 = .ok (.getfield 9, 3) := by decide +kernel
theorem dX1_keeps_26 : decode cX1_keeps 26 = .ok (.iload_n 3, 1) := by decide +kernel
theorem dX1_keeps_27 : decode cX1_keeps 27 = .ok (.iaload, 1) := by decide +kernel
theorem dX1_keeps_28 : decode cX1_keeps 28 = .ok (.imul, 1) := by decide +kernel
theorem dX1_keeps_29 : decode cX1_keeps 29 = .ok (.iadd, 1) := by decide +kernel
theorem dX1_keeps_30 : decode cX1_keeps 30 = .ok (.istore_n 2, 1) := by decide +kernel
theorem dX1_keeps_31 : decode cX1_keeps 31 = .ok (.iinc 3 1, 3) := by decide +kernel
theorem dX1_keeps_34 : decode cX1_keeps 34 = .ok (.goto (-30), 3) := by decide +kernel
theorem dX1_keeps_37 : decode cX1_keeps 37 = .ok (.iload_n 2, 1) := by decide +kernel
theorem dX1_keeps_38 : decode cX1_keeps 38 = .ok (.aload_n 1, 1) := by decide +kernel
theorem dX1_keeps_39 : decode cX1_keeps 39 = .ok (.getfield 58, 3) := by decide +kernel
theorem dX1_keeps_42 : decode cX1_keeps 42 = .ok (.if_icmp .gt 7, 3) := by decide +kernel
theorem dX1_keeps_45 : decode cX1_keeps 45 = .ok (.iconst 1, 1) := by decide +kernel
theorem dX1_keeps_46 : decode cX1_keeps 46 = .ok (.goto 4, 3) := by decide +kernel
theorem dX1_keeps_49 : decode cX1_keeps 49 = .ok (.iconst 0, 1) := by decide +kernel
theorem dX1_keeps_50 : decode cX1_keeps 50 = .ok (.ireturn, 1) := by decide +kernel
theorem dX2_init_0 : decode cX2_init 0 = .ok (.aload_n 0, 1) := by decide +kernel
theorem dX2_init_1 : decode cX2_init 1 = .ok (.invokespecial 3, 3) := by decide +kernel
theorem dX2_init_4 : decode cX2_init 4 = .ok (.aload_n 0, 1) := by decide +kernel
theorem dX2_init_5 : decode cX2_init 5 = .ok (.bipush 8, 2) := by decide +kernel
theorem dX2_init_7 : decode cX2_init 7 = .ok (.newarray .int, 2) := by decide +kernel
theorem dX2_init_9 : decode cX2_init 9 = .ok (.putfield 9, 3) := by decide +kernel
theorem dX2_init_12 : decode cX2_init 12 = .ok (.aload_n 0, 1) := by decide +kernel
theorem dX2_init_13 : decode cX2_init 13 = .ok (.aload_n 1, 1) := by decide +kernel
theorem dX2_init_14 : decode cX2_init 14 = .ok (.putfield 15, 3) := by decide +kernel
theorem dX2_init_17 : decode cX2_init 17 = .ok (.aload_n 0, 1) := by decide +kernel
theorem dX2_init_18 : decode cX2_init 18 = .ok (.aload_n 2, 1) := by decide +kernel
theorem dX2_init_19 : decode cX2_init 19 = .ok (.putfield 19, 3) := by decide +kernel
theorem dX2_init_22 : decode cX2_init 22 = .ok (.return_, 1) := by decide +kernel
theorem dX2_seekCliques_0 : decode cX2_seekCliques 0 = .ok (.aload_n 0, 1) := by decide +kernel
theorem dX2_seekCliques_1 : decode cX2_seekCliques 1 = .ok (.invokevirtual 23, 3) := by decide +kernel
theorem dX2_seekCliques_4 : decode cX2_seekCliques 4 = .ok (.aload_n 0, 1) := by decide +kernel
theorem dX2_seekCliques_5 : decode cX2_seekCliques 5 = .ok (.invokevirtual 26, 3) := by decide +kernel
theorem dX2_seekCliques_8 : decode cX2_seekCliques 8 = .ok (.iconst 1, 1) := by decide +kernel
theorem dX2_seekCliques_9 : decode cX2_seekCliques 9 = .ok (.istore_n 1, 1) := by decide +kernel
theorem dX2_seekCliques_10 : decode cX2_seekCliques 10 = .ok (.iload_n 1, 1) := by decide +kernel
theorem dX2_seekCliques_11 : decode cX2_seekCliques 11 = .ok (.iconst 1, 1) := by decide +kernel
theorem dX2_seekCliques_12 : decode cX2_seekCliques 12 = .ok (.aload_n 0, 1) := by decide +kernel
theorem dX2_seekCliques_13 : decode cX2_seekCliques 13 = .ok (.getfield 15, 3) := by decide +kernel
theorem dX2_seekCliques_16 : decode cX2_seekCliques 16 = .ok (.getfield 29, 3) := by decide +kernel
theorem dX2_seekCliques_19 : decode cX2_seekCliques 19 = .ok (.ishl, 1) := by decide +kernel
theorem dX2_seekCliques_20 : decode cX2_seekCliques 20 = .ok (.if_icmp .ge 26, 3) := by decide +kernel
theorem dX2_seekCliques_23 : decode cX2_seekCliques 23 = .ok (.aload_n 0, 1) := by decide +kernel
theorem dX2_seekCliques_24 : decode cX2_seekCliques 24 = .ok (.iload_n 1, 1) := by decide +kernel
theorem dX2_seekCliques_25 : decode cX2_seekCliques 25 = .ok (.invokevirtual 35, 3) := by decide +kernel
theorem dX2_seekCliques_28 : decode cX2_seekCliques 28 = .ok (.ifCond .eq 12, 3) := by decide +kernel
theorem dX2_seekCliques_31 : decode cX2_seekCliques 31 = .ok (.aload_n 0, 1) := by decide +kernel
theorem dX2_seekCliques_32 : decode cX2_seekCliques 32 = .ok (.iload_n 1, 1) := by decide +kernel
theorem dX2_seekCliques_33 : decode cX2_seekCliques 33 = .ok (.invokevirtual 39, 3) := by decide +kernel
theorem dX2_seekCliques_36 : decode cX2_seekCliques 36 = .ok (.ifCond .ne 4, 3) := by decide +kernel
theorem dX2_seekCliques_39 : decode cX2_seekCliques 39 = .ok (.return_, 1) := by decide +kernel
theorem dX2_seekCliques_40 : decode cX2_seekCliques 40 = .ok (.iinc 1 1, 3) := by decide +kernel
theorem dX2_seekCliques_43 : decode cX2_seekCliques 43 = .ok (.goto (-33), 3) := by decide +kernel
theorem dX2_seekCliques_46 : decode cX2_seekCliques 46 = .ok (.return_, 1) := by decide +kernel
theorem dX2_readBinaries_0 : decode cX2_readBinaries 0 = .ok (.aload_n 0, 1) := by decide +kernel
theorem dX2_readBinaries_1 : decode cX2_readBinaries 1 = .ok (.iconst 0, 1) := by decide +kernel
theorem dX2_readBinaries_2 : decode cX2_readBinaries 2 = .ok (.putfield 42, 3) := by decide +kernel
theorem dX2_readBinaries_5 : decode cX2_readBinaries 5 = .ok (.iconst 0, 1) := by decide +kernel
theorem dX2_readBinaries_6 : decode cX2_readBinaries 6 = .ok (.istore_n 1, 1) := by decide +kernel
theorem dX2_readBinaries_7 : decode cX2_readBinaries 7 = .ok (.iload_n 1, 1) := by decide +kernel
theorem dX2_readBinaries_8 : decode cX2_readBinaries 8 = .ok (.aload_n 0, 1) := by decide +kernel
theorem dX2_readBinaries_9 : decode cX2_readBinaries 9 = .ok (.getfield 15, 3) := by decide +kernel
theorem dX2_readBinaries_12 : decode cX2_readBinaries 12 = .ok (.getfield 29, 3) := by decide +kernel
theorem dX2_readBinaries_15 : decode cX2_readBinaries 15 = .ok (.if_icmp .ge 32, 3) := by decide +kernel
theorem dX2_readBinaries_18 : decode cX2_readBinaries 18 = .ok (.aload_n 0, 1) := by decide +kernel
theorem dX2_readBinaries_19 : decode cX2_readBinaries 19 = .ok (.getfield 15, 3) := by decide +kernel
theorem dX2_readBinaries_22 : decode cX2_readBinaries 22 = .ok (.iload_n 1, 1) := by decide +kernel
theorem dX2_readBinaries_23 : decode cX2_readBinaries 23 = .ok (.invokevirtual 45, 3) := by decide +kernel
theorem dX2_readBinaries_26 : decode cX2_readBinaries 26 = .ok (.ifCond .eq 15, 3) := by decide +kernel
theorem dX2_readBinaries_29 : decode cX2_readBinaries 29 = .ok (.aload_n 0, 1) := by decide +kernel
theorem dX2_readBinaries_30 : decode cX2_readBinaries 30 = .ok (.dup, 1) := by decide +kernel
theorem dX2_readBinaries_31 : decode cX2_readBinaries 31 = .ok (.getfield 42, 3) := by decide +kernel
theorem dX2_readBinaries_34 : decode cX2_readBinaries 34 = .ok (.iconst 1, 1) := by decide +kernel
theorem dX2_readBinaries_35 : decode cX2_readBinaries 35 = .ok (.iload_n 1, 1) := by decide +kernel
theorem dX2_readBinaries_36 : decode cX2_readBinaries 36 = .ok (.ishl, 1) := by decide +kernel
theorem dX2_readBinaries_37 : decode cX2_readBinaries 37 = .ok (.ior, 1) := by decide +kernel
theorem dX2_readBinaries_38 : decode cX2_readBinaries 38 = .ok (.putfield 42, 3) := by decide +kernel
theorem dX2_readBinaries_41 : decode cX2_readBinaries 41 = .ok (.iinc 1 1, 3) := by decide +kernel
theorem dX2_readBinaries_44 : decode cX2_readBinaries 44 = .ok (.goto (-37), 3) := by decide +kernel
theorem dX2_readBinaries_47 : decode cX2_readBinaries 47 = .ok (.return_, 1) := by decide +kernel
theorem dX2_readClashes_0 : decode cX2_readClashes 0 = .ok (.aload_n 0, 1) := by decide +kernel
theorem dX2_readClashes_1 : decode cX2_readClashes 1 = .ok (.getfield 9, 3) := by decide +kernel
theorem dX2_readClashes_4 : decode cX2_readClashes 4 = .ok (.iconst 0, 1) := by decide +kernel
theorem dX2_readClashes_5 : decode cX2_readClashes 5 = .ok (.invokestatic 48, 3) := by decide +kernel
theorem dX2_readClashes_8 : decode cX2_readClashes 8 = .ok (.iconst 0, 1) := by decide +kernel
theorem dX2_readClashes_9 : decode cX2_readClashes 9 = .ok (.istore_n 1, 1) := by decide +kernel
theorem dX2_readClashes_10 : decode cX2_readClashes 10 = .ok (.iload_n 1, 1) := by decide +kernel
theorem dX2_readClashes_11 : decode cX2_readClashes 11 = .ok (.aload_n 0, 1) := by decide +kernel
theorem dX2_readClashes_12 : decode cX2_readClashes 12 = .ok (.getfield 15, 3) := by decide +kernel
theorem dX2_readClashes_15 : decode cX2_readClashes 15 = .ok (.getfield 29, 3) := by decide +kernel
theorem dX2_readClashes_18 : decode cX2_readClashes 18 = .ok (.if_icmp .ge 91, 3) := by decide +kernel
theorem dX2_readClashes_21 : decode cX2_readClashes 21 = .ok (.iload_n 1, 1) := by decide +kernel
theorem dX2_readClashes_22 : decode cX2_readClashes 22 = .ok (.iconst 1, 1) := by decide +kernel
theorem dX2_readClashes_23 : decode cX2_readClashes 23 = .ok (.iadd, 1) := by decide +kernel
theorem dX2_readClashes_24 : decode cX2_readClashes 24 = .ok (.istore_n 2, 1) := by decide +kernel
theorem dX2_readClashes_25 : decode cX2_readClashes 25 = .ok (.iload_n 2, 1) := by decide +kernel
theorem dX2_readClashes_26 : decode cX2_readClashes 26 = .ok (.aload_n 0, 1) := by decide +kernel
theorem dX2_readClashes_27 : decode cX2_readClashes 27 = .ok (.getfield 15, 3) := by decide +kernel
theorem dX2_readClashes_30 : decode cX2_readClashes 30 = .ok (.getfield 29, 3) := by decide +kernel
theorem dX2_readClashes_33 : decode cX2_readClashes 33 = .ok (.if_icmp .ge 70, 3) := by decide +kernel
theorem dX2_readClashes_36 : decode cX2_readClashes 36 = .ok (.aload_n 0, 1) := by decide +kernel
theorem dX2_readClashes_37 : decode cX2_readClashes 37 = .ok (.getfield 42, 3) := by decide +kernel
theorem dX2_readClashes_40 : decode cX2_readClashes 40 = .ok (.iload_n 1, 1) := by decide +kernel
theorem dX2_readClashes_41 : decode cX2_readClashes 41 = .ok (.invokestatic 54, 3) := by decide +kernel
theorem dX2_readClashes_44 : decode cX2_readClashes 44 = .ok (.ifCond .eq 53, 3) := by decide +kernel
theorem dX2_readClashes_47 : decode cX2_readClashes 47 = .ok (.aload_n 0, 1) := by decide +kernel
theorem dX2_readClashes_48 : decode cX2_readClashes 48 = .ok (.getfield 42, 3) := by decide +kernel
theorem dX2_readClashes_51 : decode cX2_readClashes 51 = .ok (.iload_n 2, 1) := by decide +kernel
theorem dX2_readClashes_52 : decode cX2_readClashes 52 = .ok (.invokestatic 54, 3) := by decide +kernel
theorem dX2_readClashes_55 : decode cX2_readClashes 55 = .ok (.ifCond .eq 42, 3) := by decide +kernel
theorem dX2_readClashes_58 : decode cX2_readClashes 58 = .ok (.aload_n 0, 1) := by decide +kernel
theorem dX2_readClashes_59 : decode cX2_readClashes 59 = .ok (.getfield 15, 3) := by decide +kernel
theorem dX2_readClashes_62 : decode cX2_readClashes 62 = .ok (.iload_n 1, 1) := by decide +kernel
theorem dX2_readClashes_63 : decode cX2_readClashes 63 = .ok (.iload_n 2, 1) := by decide +kernel
theorem dX2_readClashes_64 : decode cX2_readClashes 64 = .ok (.invokevirtual 58, 3) := by decide +kernel
theorem dX2_readClashes_67 : decode cX2_readClashes 67 = .ok (.ifCond .ne 6, 3) := by decide +kernel
theorem dX2_readClashes_70 : decode cX2_readClashes 70 = .ok (.goto 27, 3) := by decide +kernel
theorem dX2_readClashes_73 : decode cX2_readClashes 73 = .ok (.aload_n 0, 1) := by decide +kernel
theorem dX2_readClashes_74 : decode cX2_readClashes 74 = .ok (.getfield 9, 3) := by decide +kernel
theorem dX2_readClashes_77 : decode cX2_readClashes 77 = .ok (.iload_n 1, 1) := by decide +kernel
theorem dX2_readClashes_78 : decode cX2_readClashes 78 = .ok (.dup2, 1) := by decide +kernel
theorem dX2_readClashes_79 : decode cX2_readClashes 79 = .ok (.iaload, 1) := by decide +kernel
theorem dX2_readClashes_80 : decode cX2_readClashes 80 = .ok (.iconst 1, 1) := by decide +kernel
theorem dX2_readClashes_81 : decode cX2_readClashes 81 = .ok (.iload_n 2, 1) := by decide +kernel
theorem dX2_readClashes_82 : decode cX2_readClashes 82 = .ok (.ishl, 1) := by decide +kernel
theorem dX2_readClashes_83 : decode cX2_readClashes 83 = .ok (.ior, 1) := by decide +kernel
theorem dX2_readClashes_84 : decode cX2_readClashes 84 = .ok (.iastore, 1) := by decide +kernel
theorem dX2_readClashes_85 : decode cX2_readClashes 85 = .ok (.aload_n 0, 1) := by decide +kernel
theorem dX2_readClashes_86 : decode cX2_readClashes 86 = .ok (.getfield 9, 3) := by decide +kernel
theorem dX2_readClashes_89 : decode cX2_readClashes 89 = .ok (.iload_n 2, 1) := by decide +kernel
theorem dX2_readClashes_90 : decode cX2_readClashes 90 = .ok (.dup2, 1) := by decide +kernel
theorem dX2_readClashes_91 : decode cX2_readClashes 91 = .ok (.iaload, 1) := by decide +kernel
theorem dX2_readClashes_92 : decode cX2_readClashes 92 = .ok (.iconst 1, 1) := by decide +kernel
theorem dX2_readClashes_93 : decode cX2_readClashes 93 = .ok (.iload_n 1, 1) := by decide +kernel
theorem dX2_readClashes_94 : decode cX2_readClashes 94 = .ok (.ishl, 1) := by decide +kernel
theorem dX2_readClashes_95 : decode cX2_readClashes 95 = .ok (.ior, 1) := by decide +kernel
theorem dX2_readClashes_96 : decode cX2_readClashes 96 = .ok (.iastore, 1) := by decide +kernel
theorem dX2_readClashes_97 : decode cX2_readClashes 97 = .ok (.iinc 2 1, 3) := by decide +kernel
theorem dX2_readClashes_100 : decode cX2_readClashes 100 = .ok (.goto (-75), 3) := by decide +kernel
theorem dX2_readClashes_103 : decode cX2_readClashes 103 = .ok (.iinc 1 1, 3) := by decide +kernel
theorem dX2_readClashes_106 : decode cX2_readClashes 106 = .ok (.goto (-96), 3) := by decide +kernel
theorem dX2_readClashes_109 : decode cX2_readClashes 109 = .ok (.return_, 1) := by decide +kernel
theorem dX2_isWidestClique_0 : decode cX2_isWidestClique 0 = .ok (.iload_n 1, 1) := by decide +kernel
theorem dX2_isWidestClique_1 : decode cX2_isWidestClique 1 = .ok (.invokestatic 61, 3) := by decide +kernel
theorem dX2_isWidestClique_4 : decode cX2_isWidestClique 4 = .ok (.iconst 2, 1) := by decide +kernel
theorem dX2_isWidestClique_5 : decode cX2_isWidestClique 5 = .ok (.if_icmp .lt 14, 3) := by decide +kernel
theorem dX2_isWidestClique_8 : decode cX2_isWidestClique 8 = .ok (.iload_n 1, 1) := by decide +kernel
theorem dX2_isWidestClique_9 : decode cX2_isWidestClique 9 = .ok (.aload_n 0, 1) := by decide +kernel
theorem dX2_isWidestClique_10 : decode cX2_isWidestClique 10 = .ok (.getfield 42, 3) := by decide +kernel
theorem dX2_isWidestClique_13 : decode cX2_isWidestClique 13 = .ok (.iconst (-1), 1) := by decide +kernel
theorem dX2_isWidestClique_14 : decode cX2_isWidestClique 14 = .ok (.ixor, 1) := by decide +kernel
theorem dX2_isWidestClique_15 : decode cX2_isWidestClique 15 = .ok (.iand, 1) := by decide +kernel
theorem dX2_isWidestClique_16 : decode cX2_isWidestClique 16 = .ok (.ifCond .eq 5, 3) := by decide +kernel
theorem dX2_isWidestClique_19 : decode cX2_isWidestClique 19 = .ok (.iconst 0, 1) := by decide +kernel
theorem dX2_isWidestClique_20 : decode cX2_isWidestClique 20 = .ok (.ireturn, 1) := by decide +kernel
theorem dX2_isWidestClique_21 : decode cX2_isWidestClique 21 = .ok (.iconst 0, 1) := by decide +kernel
theorem dX2_isWidestClique_22 : decode cX2_isWidestClique 22 = .ok (.istore_n 2, 1) := by decide +kernel
theorem dX2_isWidestClique_23 : decode cX2_isWidestClique 23 = .ok (.iload_n 2, 1) := by decide +kernel
theorem dX2_isWidestClique_24 : decode cX2_isWidestClique 24 = .ok (.aload_n 0, 1) := by decide +kernel
theorem dX2_isWidestClique_25 : decode cX2_isWidestClique 25 = .ok (.getfield 15, 3) := by decide +kernel
theorem dX2_isWidestClique_28 : decode cX2_isWidestClique 28 = .ok (.getfield 29, 3) := by decide +kernel
theorem dX2_isWidestClique_31 : decode cX2_isWidestClique 31 = .ok (.if_icmp .ge 62, 3) := by decide +kernel
theorem dX2_isWidestClique_34 : decode cX2_isWidestClique 34 = .ok (.aload_n 0, 1) := by decide +kernel
theorem dX2_isWidestClique_35 : decode cX2_isWidestClique 35 = .ok (.getfield 42, 3) := by decide +kernel
theorem dX2_isWidestClique_38 : decode cX2_isWidestClique 38 = .ok (.iload_n 2, 1) := by decide +kernel
theorem dX2_isWidestClique_39 : decode cX2_isWidestClique 39 = .ok (.invokestatic 54, 3) := by decide +kernel
theorem dX2_isWidestClique_42 : decode cX2_isWidestClique 42 = .ok (.ifCond .ne 6, 3) := by decide +kernel
theorem dX2_isWidestClique_45 : decode cX2_isWidestClique 45 = .ok (.goto 42, 3) := by decide +kernel
theorem dX2_isWidestClique_48 : decode cX2_isWidestClique 48 = .ok (.iload_n 1, 1) := by decide +kernel
theorem dX2_isWidestClique_49 : decode cX2_isWidestClique 49 = .ok (.iconst 1, 1) := by decide +kernel
theorem dX2_isWidestClique_50 : decode cX2_isWidestClique 50 = .ok (.iload_n 2, 1) := by decide +kernel
theorem dX2_isWidestClique_51 : decode cX2_isWidestClique 51 = .ok (.ishl, 1) := by decide +kernel
theorem dX2_isWidestClique_52 : decode cX2_isWidestClique 52 = .ok (.iconst (-1), 1) := by decide +kernel
theorem dX2_isWidestClique_53 : decode cX2_isWidestClique 53 = .ok (.ixor, 1) := by decide +kernel
theorem dX2_isWidestClique_54 : decode cX2_isWidestClique 54 = .ok (.iand, 1) := by decide +kernel
theorem dX2_isWidestClique_55 : decode cX2_isWidestClique 55 = .ok (.istore_n 3, 1) := by decide +kernel
theorem dX2_isWidestClique_56 : decode cX2_isWidestClique 56 = .ok (.aload_n 0, 1) := by decide +kernel
theorem dX2_isWidestClique_57 : decode cX2_isWidestClique 57 = .ok (.getfield 9, 3) := by decide +kernel
theorem dX2_isWidestClique_60 : decode cX2_isWidestClique 60 = .ok (.iload_n 2, 1) := by decide +kernel
theorem dX2_isWidestClique_61 : decode cX2_isWidestClique 61 = .ok (.iaload, 1) := by decide +kernel
theorem dX2_isWidestClique_62 : decode cX2_isWidestClique 62 = .ok (.iload_n 3, 1) := by decide +kernel
theorem dX2_isWidestClique_63 : decode cX2_isWidestClique 63 = .ok (.iand, 1) := by decide +kernel
theorem dX2_isWidestClique_64 : decode cX2_isWidestClique 64 = .ok (.iload_n 3, 1) := by decide +kernel
theorem dX2_isWidestClique_65 : decode cX2_isWidestClique 65 = .ok (.if_icmp .ne 7, 3) := by decide +kernel
theorem dX2_isWidestClique_68 : decode cX2_isWidestClique 68 = .ok (.iconst 1, 1) := by decide +kernel
theorem dX2_isWidestClique_69 : decode cX2_isWidestClique 69 = .ok (.goto 4, 3) := by decide +kernel
theorem dX2_isWidestClique_72 : decode cX2_isWidestClique 72 = .ok (.iconst 0, 1) := by decide +kernel
theorem dX2_isWidestClique_73 : decode cX2_isWidestClique 73 = .ok (.istore 4, 2) := by decide +kernel
theorem dX2_isWidestClique_75 : decode cX2_isWidestClique 75 = .ok (.iload 4, 2) := by decide +kernel
theorem dX2_isWidestClique_77 : decode cX2_isWidestClique 77 = .ok (.iload_n 1, 1) := by decide +kernel
theorem dX2_isWidestClique_78 : decode cX2_isWidestClique 78 = .ok (.iload_n 2, 1) := by decide +kernel
theorem dX2_isWidestClique_79 : decode cX2_isWidestClique 79 = .ok (.invokestatic 54, 3) := by decide +kernel
theorem dX2_isWidestClique_82 : decode cX2_isWidestClique 82 = .ok (.if_icmp .eq 5, 3) := by decide +kernel
theorem dX2_isWidestClique_85 : decode cX2_isWidestClique 85 = .ok (.iconst 0, 1) := by decide +kernel
theorem dX2_isWidestClique_86 : decode cX2_isWidestClique 86 = .ok (.ireturn, 1) := by decide +kernel
theorem dX2_isWidestClique_87 : decode cX2_isWidestClique 87 = .ok (.iinc 2 1, 3) := by decide +kernel
theorem dX2_isWidestClique_90 : decode cX2_isWidestClique 90 = .ok (.goto (-67), 3) := by decide +kernel
theorem dX2_isWidestClique_93 : decode cX2_isWidestClique 93 = .ok (.iconst 1, 1) := by decide +kernel
theorem dX2_isWidestClique_94 : decode cX2_isWidestClique 94 = .ok (.ireturn, 1) := by decide +kernel
theorem dX2_tryClique_0 : decode cX2_tryClique 0 = .ok (.aload_n 0, 1) := by decide +kernel
theorem dX2_tryClique_1 : decode cX2_tryClique 1 = .ok (.getfield 19, 3) := by decide +kernel
theorem dX2_tryClique_4 : decode cX2_tryClique 4 = .ok (.iconst 3, 1) := by decide +kernel
theorem dX2_tryClique_5 : decode cX2_tryClique 5 = .ok (.invokevirtual 67, 3) := by decide +kernel
theorem dX2_tryClique_8 : decode cX2_tryClique 8 = .ok (.astore_n 2, 1) := by decide +kernel
theorem dX2_tryClique_9 : decode cX2_tryClique 9 = .ok (.iconst 0, 1) := by decide +kernel
theorem dX2_tryClique_10 : decode cX2_tryClique 10 = .ok (.istore_n 3, 1) := by decide +kernel
theorem dX2_tryClique_11 : decode cX2_tryClique 11 = .ok (.iload_n 3, 1) := by decide +kernel
theorem dX2_tryClique_12 : decode cX2_tryClique 12 = .ok (.aload_n 0, 1) := by decide +kernel
theorem dX2_tryClique_13 : decode cX2_tryClique 13 = .ok (.getfield 15, 3) := by decide +kernel
theorem dX2_tryClique_16 : decode cX2_tryClique 16 = .ok (.getfield 29, 3) := by decide +kernel
theorem dX2_tryClique_19 : decode cX2_tryClique 19 = .ok (.if_icmp .ge 28, 3) := by decide +kernel
theorem dX2_tryClique_22 : decode cX2_tryClique 22 = .ok (.aload_n 2, 1) := by decide +kernel
theorem dX2_tryClique_23 : decode cX2_tryClique 23 = .ok (.getfield 73, 3) := by decide +kernel
theorem dX2_tryClique_26 : decode cX2_tryClique 26 = .ok (.iload_n 3, 1) := by decide +kernel
theorem dX2_tryClique_27 : decode cX2_tryClique 27 = .ok (.iload_n 1, 1) := by decide +kernel
theorem dX2_tryClique_28 : decode cX2_tryClique 28 = .ok (.iload_n 3, 1) := by decide +kernel
theorem dX2_tryClique_29 : decode cX2_tryClique 29 = .ok (.invokestatic 54, 3) := by decide +kernel
theorem dX2_tryClique_32 : decode cX2_tryClique 32 = .ok (.ifCond .eq 7, 3) := by decide +kernel
theorem dX2_tryClique_35 : decode cX2_tryClique 35 = .ok (.iconst 1, 1) := by decide +kernel
theorem dX2_tryClique_36 : decode cX2_tryClique 36 = .ok (.goto 4, 3) := by decide +kernel
theorem dX2_tryClique_39 : decode cX2_tryClique 39 = .ok (.iconst 0, 1) := by decide +kernel
theorem dX2_tryClique_40 : decode cX2_tryClique 40 = .ok (.iastore, 1) := by decide +kernel
theorem dX2_tryClique_41 : decode cX2_tryClique 41 = .ok (.iinc 3 1, 3) := by decide +kernel
theorem dX2_tryClique_44 : decode cX2_tryClique 44 = .ok (.goto (-33), 3) := by decide +kernel
theorem dX2_tryClique_47 : decode cX2_tryClique 47 = .ok (.aload_n 2, 1) := by decide +kernel
theorem dX2_tryClique_48 : decode cX2_tryClique 48 = .ok (.iconst 1, 1) := by decide +kernel
theorem dX2_tryClique_49 : decode cX2_tryClique 49 = .ok (.putfield 78, 3) := by decide +kernel
theorem dX2_tryClique_52 : decode cX2_tryClique 52 = .ok (.aload_n 0, 1) := by decide +kernel
theorem dX2_tryClique_53 : decode cX2_tryClique 53 = .ok (.getfield 19, 3) := by decide +kernel
theorem dX2_tryClique_56 : decode cX2_tryClique 56 = .ok (.invokevirtual 81, 3) := by decide +kernel
theorem dX2_tryClique_59 : decode cX2_tryClique 59 = .ok (.ireturn, 1) := by decide +kernel
theorem dX3_init_0 : decode cX3_init 0 = .ok (.aload_n 0, 1) := by decide +kernel
theorem dX3_init_1 : decode cX3_init 1 = .ok (.invokespecial 3, 3) := by decide +kernel
theorem dX3_init_4 : decode cX3_init 4 = .ok (.aload_n 0, 1) := by decide +kernel
theorem dX3_init_5 : decode cX3_init 5 = .ok (.bipush 8, 2) := by decide +kernel
theorem dX3_init_7 : decode cX3_init 7 = .ok (.newarray .int, 2) := by decide +kernel
theorem dX3_init_9 : decode cX3_init 9 = .ok (.putfield 9, 3) := by decide +kernel
theorem dX3_init_12 : decode cX3_init 12 = .ok (.aload_n 0, 1) := by decide +kernel
theorem dX3_init_13 : decode cX3_init 13 = .ok (.bipush 8, 2) := by decide +kernel
theorem dX3_init_15 : decode cX3_init 15 = .ok (.newarray .int, 2) := by decide +kernel
theorem dX3_init_17 : decode cX3_init 17 = .ok (.putfield 15, 3) := by decide +kernel
theorem dX3_init_20 : decode cX3_init 20 = .ok (.aload_n 0, 1) := by decide +kernel
theorem dX3_init_21 : decode cX3_init 21 = .ok (.bipush 8, 2) := by decide +kernel
theorem dX3_init_23 : decode cX3_init 23 = .ok (.newarray .int, 2) := by decide +kernel
theorem dX3_init_25 : decode cX3_init 25 = .ok (.putfield 18, 3) := by decide +kernel
theorem dX3_init_28 : decode cX3_init 28 = .ok (.aload_n 0, 1) := by decide +kernel
theorem dX3_init_29 : decode cX3_init 29 = .ok (.bipush 65, 2) := by decide +kernel
theorem dX3_init_31 : decode cX3_init 31 = .ok (.newarray .int, 2) := by decide +kernel
theorem dX3_init_33 : decode cX3_init 33 = .ok (.putfield 21, 3) := by decide +kernel
theorem dX3_init_36 : decode cX3_init 36 = .ok (.aload_n 0, 1) := by decide +kernel
theorem dX3_init_37 : decode cX3_init 37 = .ok (.aload_n 1, 1) := by decide +kernel
theorem dX3_init_38 : decode cX3_init 38 = .ok (.putfield 24, 3) := by decide +kernel
theorem dX3_init_41 : decode cX3_init 41 = .ok (.aload_n 0, 1) := by decide +kernel
theorem dX3_init_42 : decode cX3_init 42 = .ok (.aload_n 2, 1) := by decide +kernel
theorem dX3_init_43 : decode cX3_init 43 = .ok (.putfield 28, 3) := by decide +kernel
theorem dX3_init_46 : decode cX3_init 46 = .ok (.return_, 1) := by decide +kernel
theorem dX3_seekCovers_0 : decode cX3_seekCovers 0 = .ok (.iconst 0, 1) := by decide +kernel
theorem dX3_seekCovers_1 : decode cX3_seekCovers 1 = .ok (.istore_n 1, 1) := by decide +kernel
theorem dX3_seekCovers_2 : decode cX3_seekCovers 2 = .ok (.iload_n 1, 1) := by decide +kernel
theorem dX3_seekCovers_3 : decode cX3_seekCovers 3 = .ok (.aload_n 0, 1) := by decide +kernel
theorem dX3_seekCovers_4 : decode cX3_seekCovers 4 = .ok (.getfield 24, 3) := by decide +kernel
theorem dX3_seekCovers_7 : decode cX3_seekCovers 7 = .ok (.getfield 32, 3) := by decide +kernel
theorem dX3_seekCovers_10 : decode cX3_seekCovers 10 = .ok (.if_icmp .ge 50, 3) := by decide +kernel
theorem dX3_seekCovers_13 : decode cX3_seekCovers 13 = .ok (.aload_n 0, 1) := by decide +kernel
theorem dX3_seekCovers_14 : decode cX3_seekCovers 14 = .ok (.iload_n 1, 1) := by decide +kernel
theorem dX3_seekCovers_15 : decode cX3_seekCovers 15 = .ok (.invokevirtual 38, 3) := by decide +kernel
theorem dX3_seekCovers_18 : decode cX3_seekCovers 18 = .ok (.iconst 1, 1) := by decide +kernel
theorem dX3_seekCovers_19 : decode cX3_seekCovers 19 = .ok (.istore_n 2, 1) := by decide +kernel
theorem dX3_seekCovers_20 : decode cX3_seekCovers 20 = .ok (.iload_n 2, 1) := by decide +kernel
theorem dX3_seekCovers_21 : decode cX3_seekCovers 21 = .ok (.iconst 1, 1) := by decide +kernel
theorem dX3_seekCovers_22 : decode cX3_seekCovers 22 = .ok (.aload_n 0, 1) := by decide +kernel
theorem dX3_seekCovers_23 : decode cX3_seekCovers 23 = .ok (.getfield 42, 3) := by decide +kernel
theorem dX3_seekCovers_26 : decode cX3_seekCovers 26 = .ok (.ishl, 1) := by decide +kernel
theorem dX3_seekCovers_27 : decode cX3_seekCovers 27 = .ok (.if_icmp .ge 27, 3) := by decide +kernel
theorem dX3_seekCovers_30 : decode cX3_seekCovers 30 = .ok (.aload_n 0, 1) := by decide +kernel
theorem dX3_seekCovers_31 : decode cX3_seekCovers 31 = .ok (.iload_n 2, 1) := by decide +kernel
theorem dX3_seekCovers_32 : decode cX3_seekCovers 32 = .ok (.invokevirtual 45, 3) := by decide +kernel
theorem dX3_seekCovers_35 : decode cX3_seekCovers 35 = .ok (.ifCond .eq 13, 3) := by decide +kernel
theorem dX3_seekCovers_38 : decode cX3_seekCovers 38 = .ok (.aload_n 0, 1) := by decide +kernel
theorem dX3_seekCovers_39 : decode cX3_seekCovers 39 = .ok (.iload_n 1, 1) := by decide +kernel
theorem dX3_seekCovers_40 : decode cX3_seekCovers 40 = .ok (.iload_n 2, 1) := by decide +kernel
theorem dX3_seekCovers_41 : decode cX3_seekCovers 41 = .ok (.invokevirtual 49, 3) := by decide +kernel
theorem dX3_seekCovers_44 : decode cX3_seekCovers 44 = .ok (.ifCond .ne 4, 3) := by decide +kernel
theorem dX3_seekCovers_47 : decode cX3_seekCovers 47 = .ok (.return_, 1) := by decide +kernel
theorem dX3_seekCovers_48 : decode cX3_seekCovers 48 = .ok (.iinc 2 1, 3) := by decide +kernel
theorem dX3_seekCovers_51 : decode cX3_seekCovers 51 = .ok (.goto (-31), 3) := by decide +kernel
theorem dX3_seekCovers_54 : decode cX3_seekCovers 54 = .ok (.iinc 1 1, 3) := by decide +kernel
theorem dX3_seekCovers_57 : decode cX3_seekCovers 57 = .ok (.goto (-55), 3) := by decide +kernel
theorem dX3_seekCovers_60 : decode cX3_seekCovers 60 = .ok (.return_, 1) := by decide +kernel
theorem dX3_readLiterals_0 : decode cX3_readLiterals 0 = .ok (.aload_n 0, 1) := by decide +kernel
theorem dX3_readLiterals_1 : decode cX3_readLiterals 1 = .ok (.iconst 0, 1) := by decide +kernel
theorem dX3_readLiterals_2 : decode cX3_readLiterals 2 = .ok (.putfield 42, 3) := by decide +kernel
theorem dX3_readLiterals_5 : decode cX3_readLiterals 5 = .ok (.aload_n 0, 1) := by decide +kernel
theorem dX3_readLiterals_6 : decode cX3_readLiterals 6 = .ok (.aload_n 0, 1) := by decide +kernel
theorem dX3_readLiterals_7 : decode cX3_readLiterals 7 = .ok (.getfield 24, 3) := by decide +kernel
theorem dX3_readLiterals_10 : decode cX3_readLiterals 10 = .ok (.getfield 53, 3) := by decide +kernel
theorem dX3_readLiterals_13 : decode cX3_readLiterals 13 = .ok (.iload_n 1, 1) := by decide +kernel
theorem dX3_readLiterals_14 : decode cX3_readLiterals 14 = .ok (.iaload, 1) := by decide +kernel
theorem dX3_readLiterals_15 : decode cX3_readLiterals 15 = .ok (.putfield 56, 3) := by decide +kernel
theorem dX3_readLiterals_18 : decode cX3_readLiterals 18 = .ok (.iconst 0, 1) := by decide +kernel
theorem dX3_readLiterals_19 : decode cX3_readLiterals 19 = .ok (.istore_n 2, 1) := by decide +kernel
theorem dX3_readLiterals_20 : decode cX3_readLiterals 20 = .ok (.iload_n 2, 1) := by decide +kernel
theorem dX3_readLiterals_21 : decode cX3_readLiterals 21 = .ok (.aload_n 0, 1) := by decide +kernel
theorem dX3_readLiterals_22 : decode cX3_readLiterals 22 = .ok (.getfield 24, 3) := by decide +kernel
theorem dX3_readLiterals_25 : decode cX3_readLiterals 25 = .ok (.getfield 59, 3) := by decide +kernel
theorem dX3_readLiterals_28 : decode cX3_readLiterals 28 = .ok (.if_icmp .ge 104, 3) := by decide +kernel
theorem dX3_readLiterals_31 : decode cX3_readLiterals 31 = .ok (.aload_n 0, 1) := by decide +kernel
theorem dX3_readLiterals_32 : decode cX3_readLiterals 32 = .ok (.getfield 24, 3) := by decide +kernel
theorem dX3_readLiterals_35 : decode cX3_readLiterals 35 = .ok (.getfield 62, 3) := by decide +kernel
theorem dX3_readLiterals_38 : decode cX3_readLiterals 38 = .ok (.iload_n 1, 1) := by decide +kernel
theorem dX3_readLiterals_39 : decode cX3_readLiterals 39 = .ok (.aaload, 1) := by decide +kernel
theorem dX3_readLiterals_40 : decode cX3_readLiterals 40 = .ok (.iload_n 2, 1) := by decide +kernel
theorem dX3_readLiterals_41 : decode cX3_readLiterals 41 = .ok (.iaload, 1) := by decide +kernel
theorem dX3_readLiterals_42 : decode cX3_readLiterals 42 = .ok (.istore_n 3, 1) := by decide +kernel
theorem dX3_readLiterals_43 : decode cX3_readLiterals 43 = .ok (.aload_n 0, 1) := by decide +kernel
theorem dX3_readLiterals_44 : decode cX3_readLiterals 44 = .ok (.getfield 24, 3) := by decide +kernel
theorem dX3_readLiterals_47 : decode cX3_readLiterals 47 = .ok (.iload_n 2, 1) := by decide +kernel
theorem dX3_readLiterals_48 : decode cX3_readLiterals 48 = .ok (.invokevirtual 66, 3) := by decide +kernel
theorem dX3_readLiterals_51 : decode cX3_readLiterals 51 = .ok (.ifCond .ne 24, 3) := by decide +kernel
theorem dX3_readLiterals_54 : decode cX3_readLiterals 54 = .ok (.aload_n 0, 1) := by decide +kernel
theorem dX3_readLiterals_55 : decode cX3_readLiterals 55 = .ok (.dup, 1) := by decide +kernel
theorem dX3_readLiterals_56 : decode cX3_readLiterals 56 = .ok (.getfield 56, 3) := by decide +kernel
theorem dX3_readLiterals_59 : decode cX3_readLiterals 59 = .ok (.aload_n 0, 1) := by decide +kernel
theorem dX3_readLiterals_60 : decode cX3_readLiterals 60 = .ok (.getfield 24, 3) := by decide +kernel
theorem dX3_readLiterals_63 : decode cX3_readLiterals 63 = .ok (.iload_n 1, 1) := by decide +kernel
theorem dX3_readLiterals_64 : decode cX3_readLiterals 64 = .ok (.iload_n 2, 1) := by decide +kernel
theorem dX3_readLiterals_65 : decode cX3_readLiterals 65 = .ok (.invokevirtual 69, 3) := by decide +kernel
theorem dX3_readLiterals_68 : decode cX3_readLiterals 68 = .ok (.isub, 1) := by decide +kernel
theorem dX3_readLiterals_69 : decode cX3_readLiterals 69 = .ok (.putfield 56, 3) := by decide +kernel
theorem dX3_readLiterals_72 : decode cX3_readLiterals 72 = .ok (.goto 54, 3) := by decide +kernel
theorem dX3_readLiterals_75 : decode cX3_readLiterals 75 = .ok (.iload_n 3, 1) := by decide +kernel
theorem dX3_readLiterals_76 : decode cX3_readLiterals 76 = .ok (.ifCond .eq 50, 3) := by decide +kernel
theorem dX3_readLiterals_79 : decode cX3_readLiterals 79 = .ok (.aload_n 0, 1) := by decide +kernel
theorem dX3_readLiterals_80 : decode cX3_readLiterals 80 = .ok (.getfield 9, 3) := by decide +kernel
theorem dX3_readLiterals_83 : decode cX3_readLiterals 83 = .ok (.aload_n 0, 1) := by decide +kernel
theorem dX3_readLiterals_84 : decode cX3_readLiterals 84 = .ok (.getfield 42, 3) := by decide +kernel
theorem dX3_readLiterals_87 : decode cX3_readLiterals 87 = .ok (.iload_n 2, 1) := by decide +kernel
theorem dX3_readLiterals_88 : decode cX3_readLiterals 88 = .ok (.iastore, 1) := by decide +kernel
theorem dX3_readLiterals_89 : decode cX3_readLiterals 89 = .ok (.aload_n 0, 1) := by decide +kernel
theorem dX3_readLiterals_90 : decode cX3_readLiterals 90 = .ok (.getfield 15, 3) := by decide +kernel
theorem dX3_readLiterals_93 : decode cX3_readLiterals 93 = .ok (.aload_n 0, 1) := by decide +kernel
theorem dX3_readLiterals_94 : decode cX3_readLiterals 94 = .ok (.getfield 42, 3) := by decide +kernel
theorem dX3_readLiterals_97 : decode cX3_readLiterals 97 = .ok (.iload_n 3, 1) := by decide +kernel
theorem dX3_readLiterals_98 : decode cX3_readLiterals 98 = .ok (.invokestatic 73, 3) := by decide +kernel
theorem dX3_readLiterals_101 : decode cX3_readLiterals 101 = .ok (.iastore, 1) := by decide +kernel
theorem dX3_readLiterals_102 : decode cX3_readLiterals 102 = .ok (.aload_n 0, 1) := by decide +kernel
theorem dX3_readLiterals_103 : decode cX3_readLiterals 103 = .ok (.dup, 1) := by decide +kernel
theorem dX3_readLiterals_104 : decode cX3_readLiterals 104 = .ok (.getfield 42, 3) := by decide +kernel
theorem dX3_readLiterals_107 : decode cX3_readLiterals 107 = .ok (.iconst 1, 1) := by decide +kernel
theorem dX3_readLiterals_108 : decode cX3_readLiterals 108 = .ok (.iadd, 1) := by decide +kernel
theorem dX3_readLiterals_109 : decode cX3_readLiterals 109 = .ok (.putfield 42, 3) := by decide +kernel
theorem dX3_readLiterals_112 : decode cX3_readLiterals 112 = .ok (.iload_n 3, 1) := by decide +kernel
theorem dX3_readLiterals_113 : decode cX3_readLiterals 113 = .ok (.ifCond .ge 13, 3) := by decide +kernel
theorem dX3_readLiterals_116 : decode cX3_readLiterals 116 = .ok (.aload_n 0, 1) := by decide +kernel
theorem dX3_readLiterals_117 : decode cX3_readLiterals 117 = .ok (.dup, 1) := by decide +kernel
theorem dX3_readLiterals_118 : decode cX3_readLiterals 118 = .ok (.getfield 56, 3) := by decide +kernel
theorem dX3_readLiterals_121 : decode cX3_readLiterals 121 = .ok (.iload_n 3, 1) := by decide +kernel
theorem dX3_readLiterals_122 : decode cX3_readLiterals 122 = .ok (.isub, 1) := by decide +kernel
theorem dX3_readLiterals_123 : decode cX3_readLiterals 123 = .ok (.putfield 56, 3) := by decide +kernel
theorem dX3_readLiterals_126 : decode cX3_readLiterals 126 = .ok (.iinc 2 1, 3) := by decide +kernel
theorem dX3_readLiterals_129 : decode cX3_readLiterals 129 = .ok (.goto (-109), 3) := by decide +kernel
theorem dX3_readLiterals_132 : decode cX3_readLiterals 132 = .ok (.return_, 1) := by decide +kernel
theorem dX3_isMinimalCover_0 : decode cX3_isMinimalCover 0 = .ok (.iconst 0, 1) := by decide +kernel
theorem dX3_isMinimalCover_1 : decode cX3_isMinimalCover 1 = .ok (.istore_n 2, 1) := by decide +kernel
theorem dX3_isMinimalCover_2 : decode cX3_isMinimalCover 2 = .ok (.ldc 79, 2) := by decide +kernel
theorem dX3_isMinimalCover_4 : decode cX3_isMinimalCover 4 = .ok (.istore_n 3, 1) := by decide +kernel
theorem dX3_isMinimalCover_5 : decode cX3_isMinimalCover 5 = .ok (.iconst 0, 1) := by decide +kernel
theorem dX3_isMinimalCover_6 : decode cX3_isMinimalCover 6 = .ok (.istore 4, 2) := by decide +kernel
theorem dX3_isMinimalCover_8 : decode cX3_isMinimalCover 8 = .ok (.iload 4, 2) := by decide +kernel
theorem dX3_isMinimalCover_10 : decode cX3_isMinimalCover 10 = .ok (.aload_n 0, 1) := by decide +kernel
theorem dX3_isMinimalCover_11 : decode cX3_isMinimalCover 11 = .ok (.getfield 42, 3) := by decide +kernel
theorem dX3_isMinimalCover_14 : decode cX3_isMinimalCover 14 = .ok (.if_icmp .ge 43, 3) := by decide +kernel
theorem dX3_isMinimalCover_17 : decode cX3_isMinimalCover 17 = .ok (.iload_n 1, 1) := by decide +kernel
theorem dX3_isMinimalCover_18 : decode cX3_isMinimalCover 18 = .ok (.iload 4, 2) := by decide +kernel
theorem dX3_isMinimalCover_20 : decode cX3_isMinimalCover 20 = .ok (.invokestatic 80, 3) := by decide +kernel
theorem dX3_isMinimalCover_23 : decode cX3_isMinimalCover 23 = .ok (.ifCond .ne 6, 3) := by decide +kernel
theorem dX3_isMinimalCover_26 : decode cX3_isMinimalCover 26 = .ok (.goto 25, 3) := by decide +kernel
theorem dX3_isMinimalCover_29 : decode cX3_isMinimalCover 29 = .ok (.iload_n 2, 1) := by decide +kernel
theorem dX3_isMinimalCover_30 : decode cX3_isMinimalCover 30 = .ok (.aload_n 0, 1) := by decide +kernel
theorem dX3_isMinimalCover_31 : decode cX3_isMinimalCover 31 = .ok (.getfield 15, 3) := by decide +kernel
theorem dX3_isMinimalCover_34 : decode cX3_isMinimalCover 34 = .ok (.iload 4, 2) := by decide +kernel
theorem dX3_isMinimalCover_36 : decode cX3_isMinimalCover 36 = .ok (.iaload, 1) := by decide +kernel
theorem dX3_isMinimalCover_37 : decode cX3_isMinimalCover 37 = .ok (.iadd, 1) := by decide +kernel
theorem dX3_isMinimalCover_38 : decode cX3_isMinimalCover 38 = .ok (.istore_n 2, 1) := by decide +kernel
theorem dX3_isMinimalCover_39 : decode cX3_isMinimalCover 39 = .ok (.iload_n 3, 1) := by decide +kernel
theorem dX3_isMinimalCover_40 : decode cX3_isMinimalCover 40 = .ok (.aload_n 0, 1) := by decide +kernel
theorem dX3_isMinimalCover_41 : decode cX3_isMinimalCover 41 = .ok (.getfield 15, 3) := by decide +kernel
theorem dX3_isMinimalCover_44 : decode cX3_isMinimalCover 44 = .ok (.iload 4, 2) := by decide +kernel
theorem dX3_isMinimalCover_46 : decode cX3_isMinimalCover 46 = .ok (.iaload, 1) := by decide +kernel
theorem dX3_isMinimalCover_47 : decode cX3_isMinimalCover 47 = .ok (.invokestatic 83, 3) := by decide +kernel
theorem dX3_isMinimalCover_50 : decode cX3_isMinimalCover 50 = .ok (.istore_n 3, 1) := by decide +kernel
theorem dX3_isMinimalCover_51 : decode cX3_isMinimalCover 51 = .ok (.iinc 4 1, 3) := by decide +kernel
theorem dX3_isMinimalCover_54 : decode cX3_isMinimalCover 54 = .ok (.goto (-46), 3) := by decide +kernel
theorem dX3_isMinimalCover_57 : decode cX3_isMinimalCover 57 = .ok (.iload_n 2, 1) := by decide +kernel
theorem dX3_isMinimalCover_58 : decode cX3_isMinimalCover 58 = .ok (.aload_n 0, 1) := by decide +kernel
theorem dX3_isMinimalCover_59 : decode cX3_isMinimalCover 59 = .ok (.getfield 56, 3) := by decide +kernel
theorem dX3_isMinimalCover_62 : decode cX3_isMinimalCover 62 = .ok (.if_icmp .le 17, 3) := by decide +kernel
theorem dX3_isMinimalCover_65 : decode cX3_isMinimalCover 65 = .ok (.iload_n 2, 1) := by decide +kernel
theorem dX3_isMinimalCover_66 : decode cX3_isMinimalCover 66 = .ok (.iload_n 3, 1) := by decide +kernel
theorem dX3_isMinimalCover_67 : decode cX3_isMinimalCover 67 = .ok (.isub, 1) := by decide +kernel
theorem dX3_isMinimalCover_68 : decode cX3_isMinimalCover 68 = .ok (.aload_n 0, 1) := by decide +kernel
theorem dX3_isMinimalCover_69 : decode cX3_isMinimalCover 69 = .ok (.getfield 56, 3) := by decide +kernel
theorem dX3_isMinimalCover_72 : decode cX3_isMinimalCover 72 = .ok (.if_icmp .gt 7, 3) := by decide +kernel
theorem dX3_isMinimalCover_75 : decode cX3_isMinimalCover 75 = .ok (.iconst 1, 1) := by decide +kernel
theorem dX3_isMinimalCover_76 : decode cX3_isMinimalCover 76 = .ok (.goto 4, 3) := by decide +kernel
theorem dX3_isMinimalCover_79 : decode cX3_isMinimalCover 79 = .ok (.iconst 0, 1) := by decide +kernel
theorem dX3_isMinimalCover_80 : decode cX3_isMinimalCover 80 = .ok (.ireturn, 1) := by decide +kernel
theorem dX3_tryCover_0 : decode cX3_tryCover 0 = .ok (.aload_n 0, 1) := by decide +kernel
theorem dX3_tryCover_1 : decode cX3_tryCover 1 = .ok (.iload_n 2, 1) := by decide +kernel
theorem dX3_tryCover_2 : decode cX3_tryCover 2 = .ok (.invokevirtual 86, 3) := by decide +kernel
theorem dX3_tryCover_5 : decode cX3_tryCover 5 = .ok (.aload_n 0, 1) := by decide +kernel
theorem dX3_tryCover_6 : decode cX3_tryCover 6 = .ok (.getfield 28, 3) := by decide +kernel
theorem dX3_tryCover_9 : decode cX3_tryCover 9 = .ok (.iconst 2, 1) := by decide +kernel
theorem dX3_tryCover_10 : decode cX3_tryCover 10 = .ok (.invokevirtual 89, 3) := by decide +kernel
theorem dX3_tryCover_13 : decode cX3_tryCover 13 = .ok (.astore_n 3, 1) := by decide +kernel
theorem dX3_tryCover_14 : decode cX3_tryCover 14 = .ok (.aload_n 3, 1) := by decide +kernel
theorem dX3_tryCover_15 : decode cX3_tryCover 15 = .ok (.iload_n 1, 1) := by decide +kernel
theorem dX3_tryCover_16 : decode cX3_tryCover 16 = .ok (.putfield 95, 3) := by decide +kernel
theorem dX3_tryCover_19 : decode cX3_tryCover 19 = .ok (.aload_n 3, 1) := by decide +kernel
theorem dX3_tryCover_20 : decode cX3_tryCover 20 = .ok (.iload_n 2, 1) := by decide +kernel
theorem dX3_tryCover_21 : decode cX3_tryCover 21 = .ok (.invokestatic 100, 3) := by decide +kernel
theorem dX3_tryCover_24 : decode cX3_tryCover 24 = .ok (.iconst 1, 1) := by decide +kernel
theorem dX3_tryCover_25 : decode cX3_tryCover 25 = .ok (.isub, 1) := by decide +kernel
theorem dX3_tryCover_26 : decode cX3_tryCover 26 = .ok (.putfield 105, 3) := by decide +kernel
theorem dX3_tryCover_29 : decode cX3_tryCover 29 = .ok (.iconst 0, 1) := by decide +kernel
theorem dX3_tryCover_30 : decode cX3_tryCover 30 = .ok (.istore 4, 2) := by decide +kernel
theorem dX3_tryCover_32 : decode cX3_tryCover 32 = .ok (.iload 4, 2) := by decide +kernel
theorem dX3_tryCover_34 : decode cX3_tryCover 34 = .ok (.aload_n 0, 1) := by decide +kernel
theorem dX3_tryCover_35 : decode cX3_tryCover 35 = .ok (.getfield 42, 3) := by decide +kernel
theorem dX3_tryCover_38 : decode cX3_tryCover 38 = .ok (.if_icmp .ge 81, 3) := by decide +kernel
theorem dX3_tryCover_41 : decode cX3_tryCover 41 = .ok (.aload_n 0, 1) := by decide +kernel
theorem dX3_tryCover_42 : decode cX3_tryCover 42 = .ok (.getfield 9, 3) := by decide +kernel
theorem dX3_tryCover_45 : decode cX3_tryCover 45 = .ok (.iload 4, 2) := by decide +kernel
theorem dX3_tryCover_47 : decode cX3_tryCover 47 = .ok (.iaload, 1) := by decide +kernel
theorem dX3_tryCover_48 : decode cX3_tryCover 48 = .ok (.istore 5, 2) := by decide +kernel
theorem dX3_tryCover_50 : decode cX3_tryCover 50 = .ok (.aload_n 0, 1) := by decide +kernel
theorem dX3_tryCover_51 : decode cX3_tryCover 51 = .ok (.getfield 24, 3) := by decide +kernel
theorem dX3_tryCover_54 : decode cX3_tryCover 54 = .ok (.getfield 62, 3) := by decide +kernel
theorem dX3_tryCover_57 : decode cX3_tryCover 57 = .ok (.iload_n 1, 1) := by decide +kernel
theorem dX3_tryCover_58 : decode cX3_tryCover 58 = .ok (.aaload, 1) := by decide +kernel
theorem dX3_tryCover_59 : decode cX3_tryCover 59 = .ok (.iload 5, 2) := by decide +kernel
theorem dX3_tryCover_61 : decode cX3_tryCover 61 = .ok (.iaload, 1) := by decide +kernel
theorem dX3_tryCover_62 : decode cX3_tryCover 62 = .ok (.ifCond .le 20, 3) := by decide +kernel
theorem dX3_tryCover_65 : decode cX3_tryCover 65 = .ok (.aload_n 3, 1) := by decide +kernel
theorem dX3_tryCover_66 : decode cX3_tryCover 66 = .ok (.getfield 108, 3) := by decide +kernel
theorem dX3_tryCover_69 : decode cX3_tryCover 69 = .ok (.iload 5, 2) := by decide +kernel
theorem dX3_tryCover_71 : decode cX3_tryCover 71 = .ok (.aload_n 0, 1) := by decide +kernel
theorem dX3_tryCover_72 : decode cX3_tryCover 72 = .ok (.getfield 18, 3) := by decide +kernel
theorem dX3_tryCover_75 : decode cX3_tryCover 75 = .ok (.iload 4, 2) := by decide +kernel
theorem dX3_tryCover_77 : decode cX3_tryCover 77 = .ok (.iaload, 1) := by decide +kernel
theorem dX3_tryCover_78 : decode cX3_tryCover 78 = .ok (.iastore, 1) := by decide +kernel
theorem dX3_tryCover_79 : decode cX3_tryCover 79 = .ok (.goto 34, 3) := by decide +kernel
theorem dX3_tryCover_82 : decode cX3_tryCover 82 = .ok (.aload_n 3, 1) := by decide +kernel
theorem dX3_tryCover_83 : decode cX3_tryCover 83 = .ok (.getfield 108, 3) := by decide +kernel
theorem dX3_tryCover_86 : decode cX3_tryCover 86 = .ok (.iload 5, 2) := by decide +kernel
theorem dX3_tryCover_88 : decode cX3_tryCover 88 = .ok (.aload_n 0, 1) := by decide +kernel
theorem dX3_tryCover_89 : decode cX3_tryCover 89 = .ok (.getfield 18, 3) := by decide +kernel
theorem dX3_tryCover_92 : decode cX3_tryCover 92 = .ok (.iload 4, 2) := by decide +kernel
theorem dX3_tryCover_94 : decode cX3_tryCover 94 = .ok (.iaload, 1) := by decide +kernel
theorem dX3_tryCover_95 : decode cX3_tryCover 95 = .ok (.ineg, 1) := by decide +kernel
theorem dX3_tryCover_96 : decode cX3_tryCover 96 = .ok (.iastore, 1) := by decide +kernel
theorem dX3_tryCover_97 : decode cX3_tryCover 97 = .ok (.aload_n 3, 1) := by decide +kernel
theorem dX3_tryCover_98 : decode cX3_tryCover 98 = .ok (.dup, 1) := by decide +kernel
theorem dX3_tryCover_99 : decode cX3_tryCover 99 = .ok (.getfield 105, 3) := by decide +kernel
theorem dX3_tryCover_102 : decode cX3_tryCover 102 = .ok (.aload_n 0, 1) := by decide +kernel
theorem dX3_tryCover_103 : decode cX3_tryCover 103 = .ok (.getfield 18, 3) := by decide +kernel
theorem dX3_tryCover_106 : decode cX3_tryCover 106 = .ok (.iload 4, 2) := by decide +kernel
theorem dX3_tryCover_108 : decode cX3_tryCover 108 = .ok (.iaload, 1) := by decide +kernel
theorem dX3_tryCover_109 : decode cX3_tryCover 109 = .ok (.isub, 1) := by decide +kernel
theorem dX3_tryCover_110 : decode cX3_tryCover 110 = .ok (.putfield 105, 3) := by decide +kernel
theorem dX3_tryCover_113 : decode cX3_tryCover 113 = .ok (.iinc 4 1, 3) := by decide +kernel
theorem dX3_tryCover_116 : decode cX3_tryCover 116 = .ok (.goto (-84), 3) := by decide +kernel
theorem dX3_tryCover_119 : decode cX3_tryCover 119 = .ok (.aload_n 0, 1) := by decide +kernel
theorem dX3_tryCover_120 : decode cX3_tryCover 120 = .ok (.getfield 28, 3) := by decide +kernel
theorem dX3_tryCover_123 : decode cX3_tryCover 123 = .ok (.invokevirtual 110, 3) := by decide +kernel
theorem dX3_tryCover_126 : decode cX3_tryCover 126 = .ok (.ireturn, 1) := by decide +kernel
theorem dX3_lift_0 : decode cX3_lift 0 = .ok (.iload_n 1, 1) := by decide +kernel
theorem dX3_lift_1 : decode cX3_lift 1 = .ok (.invokestatic 100, 3) := by decide +kernel
theorem dX3_lift_4 : decode cX3_lift 4 = .ok (.iconst 1, 1) := by decide +kernel
theorem dX3_lift_5 : decode cX3_lift 5 = .ok (.isub, 1) := by decide +kernel
theorem dX3_lift_6 : decode cX3_lift 6 = .ok (.istore_n 2, 1) := by decide +kernel
theorem dX3_lift_7 : decode cX3_lift 7 = .ok (.aload_n 0, 1) := by decide +kernel
theorem dX3_lift_8 : decode cX3_lift 8 = .ok (.getfield 21, 3) := by decide +kernel
theorem dX3_lift_11 : decode cX3_lift 11 = .ok (.ldc 79, 2) := by decide +kernel
theorem dX3_lift_13 : decode cX3_lift 13 = .ok (.invokestatic 114, 3) := by decide +kernel
theorem dX3_lift_16 : decode cX3_lift 16 = .ok (.aload_n 0, 1) := by decide +kernel
theorem dX3_lift_17 : decode cX3_lift 17 = .ok (.getfield 21, 3) := by decide +kernel
theorem dX3_lift_20 : decode cX3_lift 20 = .ok (.iconst 0, 1) := by decide +kernel
theorem dX3_lift_21 : decode cX3_lift 21 = .ok (.iconst 0, 1) := by decide +kernel
theorem dX3_lift_22 : decode cX3_lift 22 = .ok (.iastore, 1) := by decide +kernel
theorem dX3_lift_23 : decode cX3_lift 23 = .ok (.iconst 0, 1) := by decide +kernel
theorem dX3_lift_24 : decode cX3_lift 24 = .ok (.istore_n 3, 1) := by decide +kernel
theorem dX3_lift_25 : decode cX3_lift 25 = .ok (.iload_n 3, 1) := by decide +kernel
theorem dX3_lift_26 : decode cX3_lift 26 = .ok (.aload_n 0, 1) := by decide +kernel
theorem dX3_lift_27 : decode cX3_lift 27 = .ok (.getfield 42, 3) := by decide +kernel
theorem dX3_lift_30 : decode cX3_lift 30 = .ok (.if_icmp .ge 23, 3) := by decide +kernel
theorem dX3_lift_33 : decode cX3_lift 33 = .ok (.iload_n 1, 1) := by decide +kernel
theorem dX3_lift_34 : decode cX3_lift 34 = .ok (.iload_n 3, 1) := by decide +kernel
theorem dX3_lift_35 : decode cX3_lift 35 = .ok (.invokestatic 80, 3) := by decide +kernel
theorem dX3_lift_38 : decode cX3_lift 38 = .ok (.ifCond .eq 9, 3) := by decide +kernel
theorem dX3_lift_41 : decode cX3_lift 41 = .ok (.aload_n 0, 1) := by decide +kernel
theorem dX3_lift_42 : decode cX3_lift 42 = .ok (.iload_n 3, 1) := by decide +kernel
theorem dX3_lift_43 : decode cX3_lift 43 = .ok (.iconst 1, 1) := by decide +kernel
theorem dX3_lift_44 : decode cX3_lift 44 = .ok (.invokevirtual 120, 3) := by decide +kernel
theorem dX3_lift_47 : decode cX3_lift 47 = .ok (.iinc 3 1, 3) := by decide +kernel
theorem dX3_lift_50 : decode cX3_lift 50 = .ok (.goto (-25), 3) := by decide +kernel
theorem dX3_lift_53 : decode cX3_lift 53 = .ok (.iconst 0, 1) := by decide +kernel
theorem dX3_lift_54 : decode cX3_lift 54 = .ok (.istore_n 3, 1) := by decide +kernel
theorem dX3_lift_55 : decode cX3_lift 55 = .ok (.iload_n 3, 1) := by decide +kernel
theorem dX3_lift_56 : decode cX3_lift 56 = .ok (.aload_n 0, 1) := by decide +kernel
theorem dX3_lift_57 : decode cX3_lift 57 = .ok (.getfield 42, 3) := by decide +kernel
theorem dX3_lift_60 : decode cX3_lift 60 = .ok (.if_icmp .ge 39, 3) := by decide +kernel
theorem dX3_lift_63 : decode cX3_lift 63 = .ok (.iload_n 1, 1) := by decide +kernel
theorem dX3_lift_64 : decode cX3_lift 64 = .ok (.iload_n 3, 1) := by decide +kernel
theorem dX3_lift_65 : decode cX3_lift 65 = .ok (.invokestatic 80, 3) := by decide +kernel
theorem dX3_lift_68 : decode cX3_lift 68 = .ok (.ifCond .ne 25, 3) := by decide +kernel
theorem dX3_lift_71 : decode cX3_lift 71 = .ok (.aload_n 0, 1) := by decide +kernel
theorem dX3_lift_72 : decode cX3_lift 72 = .ok (.iload_n 3, 1) := by decide +kernel
theorem dX3_lift_73 : decode cX3_lift 73 = .ok (.iload_n 2, 1) := by decide +kernel
theorem dX3_lift_74 : decode cX3_lift 74 = .ok (.aload_n 0, 1) := by decide +kernel
theorem dX3_lift_75 : decode cX3_lift 75 = .ok (.aload_n 0, 1) := by decide +kernel
theorem dX3_lift_76 : decode cX3_lift 76 = .ok (.getfield 56, 3) := by decide +kernel
theorem dX3_lift_79 : decode cX3_lift 79 = .ok (.aload_n 0, 1) := by decide +kernel
theorem dX3_lift_80 : decode cX3_lift 80 = .ok (.getfield 15, 3) := by decide +kernel
theorem dX3_lift_83 : decode cX3_lift 83 = .ok (.iload_n 3, 1) := by decide +kernel
theorem dX3_lift_84 : decode cX3_lift 84 = .ok (.iaload, 1) := by decide +kernel
theorem dX3_lift_85 : decode cX3_lift 85 = .ok (.isub, 1) := by decide +kernel
theorem dX3_lift_86 : decode cX3_lift 86 = .ok (.invokevirtual 124, 3) := by decide +kernel
theorem dX3_lift_89 : decode cX3_lift 89 = .ok (.isub, 1) := by decide +kernel
theorem dX3_lift_90 : decode cX3_lift 90 = .ok (.invokevirtual 120, 3) := by decide +kernel
theorem dX3_lift_93 : decode cX3_lift 93 = .ok (.iinc 3 1, 3) := by decide +kernel
theorem dX3_lift_96 : decode cX3_lift 96 = .ok (.goto (-41), 3) := by decide +kernel
theorem dX3_lift_99 : decode cX3_lift 99 = .ok (.return_, 1) := by decide +kernel
theorem dX3_giveAlpha_0 : decode cX3_giveAlpha 0 = .ok (.aload_n 0, 1) := by decide +kernel
theorem dX3_giveAlpha_1 : decode cX3_giveAlpha 1 = .ok (.getfield 18, 3) := by decide +kernel
theorem dX3_giveAlpha_4 : decode cX3_giveAlpha 4 = .ok (.iload_n 1, 1) := by decide +kernel
theorem dX3_giveAlpha_5 : decode cX3_giveAlpha 5 = .ok (.iload_n 2, 1) := by decide +kernel
theorem dX3_giveAlpha_6 : decode cX3_giveAlpha 6 = .ok (.iastore, 1) := by decide +kernel
theorem dX3_giveAlpha_7 : decode cX3_giveAlpha 7 = .ok (.iload_n 2, 1) := by decide +kernel
theorem dX3_giveAlpha_8 : decode cX3_giveAlpha 8 = .ok (.ifCond .gt 4, 3) := by decide +kernel
theorem dX3_giveAlpha_11 : decode cX3_giveAlpha 11 = .ok (.return_, 1) := by decide +kernel
theorem dX3_giveAlpha_12 : decode cX3_giveAlpha 12 = .ok (.bipush 64, 2) := by decide +kernel
theorem dX3_giveAlpha_14 : decode cX3_giveAlpha 14 = .ok (.istore_n 3, 1) := by decide +kernel
theorem dX3_giveAlpha_15 : decode cX3_giveAlpha 15 = .ok (.iload_n 3, 1) := by decide +kernel
theorem dX3_giveAlpha_16 : decode cX3_giveAlpha 16 = .ok (.iload_n 2, 1) := by decide +kernel
theorem dX3_giveAlpha_17 : decode cX3_giveAlpha 17 = .ok (.if_icmp .lt 39, 3) := by decide +kernel
theorem dX3_giveAlpha_20 : decode cX3_giveAlpha 20 = .ok (.aload_n 0, 1) := by decide +kernel
theorem dX3_giveAlpha_21 : decode cX3_giveAlpha 21 = .ok (.getfield 21, 3) := by decide +kernel
theorem dX3_giveAlpha_24 : decode cX3_giveAlpha 24 = .ok (.iload_n 3, 1) := by decide +kernel
theorem dX3_giveAlpha_25 : decode cX3_giveAlpha 25 = .ok (.aload_n 0, 1) := by decide +kernel
theorem dX3_giveAlpha_26 : decode cX3_giveAlpha 26 = .ok (.getfield 21, 3) := by decide +kernel
theorem dX3_giveAlpha_29 : decode cX3_giveAlpha 29 = .ok (.iload_n 3, 1) := by decide +kernel
theorem dX3_giveAlpha_30 : decode cX3_giveAlpha 30 = .ok (.iaload, 1) := by decide +kernel
theorem dX3_giveAlpha_31 : decode cX3_giveAlpha 31 = .ok (.aload_n 0, 1) := by decide +kernel
theorem dX3_giveAlpha_32 : decode cX3_giveAlpha 32 = .ok (.getfield 21, 3) := by decide +kernel
theorem dX3_giveAlpha_35 : decode cX3_giveAlpha 35 = .ok (.iload_n 3, 1) := by decide +kernel
theorem dX3_giveAlpha_36 : decode cX3_giveAlpha 36 = .ok (.iload_n 2, 1) := by decide +kernel
theorem dX3_giveAlpha_37 : decode cX3_giveAlpha 37 = .ok (.isub, 1) := by decide +kernel
theorem dX3_giveAlpha_38 : decode cX3_giveAlpha 38 = .ok (.iaload, 1) := by decide +kernel
theorem dX3_giveAlpha_39 : decode cX3_giveAlpha 39 = .ok (.aload_n 0, 1) := by decide +kernel
theorem dX3_giveAlpha_40 : decode cX3_giveAlpha 40 = .ok (.getfield 15, 3) := by decide +kernel
theorem dX3_giveAlpha_43 : decode cX3_giveAlpha 43 = .ok (.iload_n 1, 1) := by decide +kernel
theorem dX3_giveAlpha_44 : decode cX3_giveAlpha 44 = .ok (.iaload, 1) := by decide +kernel
theorem dX3_giveAlpha_45 : decode cX3_giveAlpha 45 = .ok (.iadd, 1) := by decide +kernel
theorem dX3_giveAlpha_46 : decode cX3_giveAlpha 46 = .ok (.invokestatic 83, 3) := by decide +kernel
theorem dX3_giveAlpha_49 : decode cX3_giveAlpha 49 = .ok (.iastore, 1) := by decide +kernel
theorem dX3_giveAlpha_50 : decode cX3_giveAlpha 50 = .ok (.iinc 3 (-1), 3) := by decide +kernel
theorem dX3_giveAlpha_53 : decode cX3_giveAlpha 53 = .ok (.goto (-38), 3) := by decide +kernel
theorem dX3_giveAlpha_56 : decode cX3_giveAlpha 56 = .ok (.return_, 1) := by decide +kernel
theorem dX3_greatestSum_0 : decode cX3_greatestSum 0 = .ok (.bipush 64, 2) := by decide +kernel
theorem dX3_greatestSum_2 : decode cX3_greatestSum 2 = .ok (.istore_n 2, 1) := by decide +kernel
theorem dX3_greatestSum_3 : decode cX3_greatestSum 3 = .ok (.iload_n 2, 1) := by decide +kernel
theorem dX3_greatestSum_4 : decode cX3_greatestSum 4 = .ok (.ifCond .le 21, 3) := by decide +kernel
theorem dX3_greatestSum_7 : decode cX3_greatestSum 7 = .ok (.aload_n 0, 1) := by decide +kernel
theorem dX3_greatestSum_8 : decode cX3_greatestSum 8 = .ok (.getfield 21, 3) := by decide +kernel
theorem dX3_greatestSum_11 : decode cX3_greatestSum 11 = .ok (.iload_n 2, 1) := by decide +kernel
theorem dX3_greatestSum_12 : decode cX3_greatestSum 12 = .ok (.iaload, 1) := by decide +kernel
theorem dX3_greatestSum_13 : decode cX3_greatestSum 13 = .ok (.iload_n 1, 1) := by decide +kernel
theorem dX3_greatestSum_14 : decode cX3_greatestSum 14 = .ok (.if_icmp .gt 5, 3) := by decide +kernel
theorem dX3_greatestSum_17 : decode cX3_greatestSum 17 = .ok (.iload_n 2, 1) := by decide +kernel
theorem dX3_greatestSum_18 : decode cX3_greatestSum 18 = .ok (.ireturn, 1) := by decide +kernel
theorem dX3_greatestSum_19 : decode cX3_greatestSum 19 = .ok (.iinc 2 (-1), 3) := by decide +kernel
theorem dX3_greatestSum_22 : decode cX3_greatestSum 22 = .ok (.goto (-19), 3) := by decide +kernel
theorem dX3_greatestSum_25 : decode cX3_greatestSum 25 = .ok (.iconst 0, 1) := by decide +kernel
theorem dX3_greatestSum_26 : decode cX3_greatestSum 26 = .ok (.ireturn, 1) := by decide +kernel
theorem dX4_init_0 : decode cX4_init 0 = .ok (.aload_n 0, 1) := by decide +kernel
theorem dX4_init_1 : decode cX4_init 1 = .ok (.invokespecial 3, 3) := by decide +kernel
theorem dX4_init_4 : decode cX4_init 4 = .ok (.aload_n 0, 1) := by decide +kernel
theorem dX4_init_5 : decode cX4_init 5 = .ok (.bipush 8, 2) := by decide +kernel
theorem dX4_init_7 : decode cX4_init 7 = .ok (.newarray .int, 2) := by decide +kernel
theorem dX4_init_9 : decode cX4_init 9 = .ok (.putfield 9, 3) := by decide +kernel
theorem dX4_init_12 : decode cX4_init 12 = .ok (.aload_n 0, 1) := by decide +kernel
theorem dX4_init_13 : decode cX4_init 13 = .ok (.bipush 10, 2) := by decide +kernel
theorem dX4_init_15 : decode cX4_init 15 = .ok (.newarray .int, 2) := by decide +kernel
theorem dX4_init_17 : decode cX4_init 17 = .ok (.putfield 15, 3) := by decide +kernel
theorem dX4_init_20 : decode cX4_init 20 = .ok (.aload_n 0, 1) := by decide +kernel
theorem dX4_init_21 : decode cX4_init 21 = .ok (.bipush 8, 2) := by decide +kernel
theorem dX4_init_23 : decode cX4_init 23 = .ok (.newarray .int, 2) := by decide +kernel
theorem dX4_init_25 : decode cX4_init 25 = .ok (.putfield 18, 3) := by decide +kernel
theorem dX4_init_28 : decode cX4_init 28 = .ok (.aload_n 0, 1) := by decide +kernel
theorem dX4_init_29 : decode cX4_init 29 = .ok (.bipush 8, 2) := by decide +kernel
theorem dX4_init_31 : decode cX4_init 31 = .ok (.newarray .int, 2) := by decide +kernel
theorem dX4_init_33 : decode cX4_init 33 = .ok (.putfield 21, 3) := by decide +kernel
theorem dX4_init_36 : decode cX4_init 36 = .ok (.return_, 1) := by decide +kernel
theorem dX4_begin_0 : decode cX4_begin 0 = .ok (.aload_n 0, 1) := by decide +kernel
theorem dX4_begin_1 : decode cX4_begin 1 = .ok (.getfield 9, 3) := by decide +kernel
theorem dX4_begin_4 : decode cX4_begin 4 = .ok (.iconst 0, 1) := by decide +kernel
theorem dX4_begin_5 : decode cX4_begin 5 = .ok (.invokestatic 24, 3) := by decide +kernel
theorem dX4_begin_8 : decode cX4_begin 8 = .ok (.aload_n 0, 1) := by decide +kernel
theorem dX4_begin_9 : decode cX4_begin 9 = .ok (.getfield 15, 3) := by decide +kernel
theorem dX4_begin_12 : decode cX4_begin 12 = .ok (.iconst 0, 1) := by decide +kernel
theorem dX4_begin_13 : decode cX4_begin 13 = .ok (.invokestatic 24, 3) := by decide +kernel
theorem dX4_begin_16 : decode cX4_begin 16 = .ok (.aload_n 0, 1) := by decide +kernel
theorem dX4_begin_17 : decode cX4_begin 17 = .ok (.getfield 18, 3) := by decide +kernel
theorem dX4_begin_20 : decode cX4_begin 20 = .ok (.iconst 0, 1) := by decide +kernel
theorem dX4_begin_21 : decode cX4_begin 21 = .ok (.invokestatic 24, 3) := by decide +kernel
theorem dX4_begin_24 : decode cX4_begin 24 = .ok (.aload_n 0, 1) := by decide +kernel
theorem dX4_begin_25 : decode cX4_begin 25 = .ok (.getfield 21, 3) := by decide +kernel
theorem dX4_begin_28 : decode cX4_begin 28 = .ok (.iconst 0, 1) := by decide +kernel
theorem dX4_begin_29 : decode cX4_begin 29 = .ok (.invokestatic 24, 3) := by decide +kernel
theorem dX4_begin_32 : decode cX4_begin 32 = .ok (.aload_n 0, 1) := by decide +kernel
theorem dX4_begin_33 : decode cX4_begin 33 = .ok (.iconst 0, 1) := by decide +kernel
theorem dX4_begin_34 : decode cX4_begin 34 = .ok (.putfield 30, 3) := by decide +kernel
theorem dX4_begin_37 : decode cX4_begin 37 = .ok (.aload_n 0, 1) := by decide +kernel
theorem dX4_begin_38 : decode cX4_begin 38 = .ok (.iload_n 1, 1) := by decide +kernel
theorem dX4_begin_39 : decode cX4_begin 39 = .ok (.putfield 34, 3) := by decide +kernel
theorem dX4_begin_42 : decode cX4_begin 42 = .ok (.aload_n 0, 1) := by decide +kernel
theorem dX4_begin_43 : decode cX4_begin 43 = .ok (.iconst 0, 1) := by decide +kernel
theorem dX4_begin_44 : decode cX4_begin 44 = .ok (.putfield 37, 3) := by decide +kernel
theorem dX4_begin_47 : decode cX4_begin 47 = .ok (.aload_n 0, 1) := by decide +kernel
theorem dX4_begin_48 : decode cX4_begin 48 = .ok (.iconst 0, 1) := by decide +kernel
theorem dX4_begin_49 : decode cX4_begin 49 = .ok (.putfield 40, 3) := by decide +kernel
theorem dX4_begin_52 : decode cX4_begin 52 = .ok (.aload_n 0, 1) := by decide +kernel
theorem dX4_begin_53 : decode cX4_begin 53 = .ok (.iconst 0, 1) := by decide +kernel
theorem dX4_begin_54 : decode cX4_begin 54 = .ok (.putfield 43, 3) := by decide +kernel
theorem dX4_begin_57 : decode cX4_begin 57 = .ok (.return_, 1) := by decide +kernel
theorem dX4_saysTheSameAs_0 : decode cX4_saysTheSameAs 0 = .ok (.aload_n 0, 1) := by decide +kernel
theorem dX4_saysTheSameAs_1 : decode cX4_saysTheSameAs 1 = .ok (.getfield 30, 3) := by decide +kernel
theorem dX4_saysTheSameAs_4 : decode cX4_saysTheSameAs 4 = .ok (.aload_n 1, 1) := by decide +kernel
theorem dX4_saysTheSameAs_5 : decode cX4_saysTheSameAs 5 = .ok (.getfield 30, 3) := by decide +kernel
theorem dX4_saysTheSameAs_8 : decode cX4_saysTheSameAs 8 = .ok (.if_icmp .eq 5, 3) := by decide +kernel
theorem dX4_saysTheSameAs_11 : decode cX4_saysTheSameAs 11 = .ok (.iconst 0, 1) := by decide +kernel
theorem dX4_saysTheSameAs_12 : decode cX4_saysTheSameAs 12 = .ok (.ireturn, 1) := by decide +kernel
theorem dX4_saysTheSameAs_13 : decode cX4_saysTheSameAs 13 = .ok (.iconst 0, 1) := by decide +kernel
theorem dX4_saysTheSameAs_14 : decode cX4_saysTheSameAs 14 = .ok (.istore_n 3, 1) := by decide +kernel
theorem dX4_saysTheSameAs_15 : decode cX4_saysTheSameAs 15 = .ok (.iload_n 3, 1) := by decide +kernel
theorem dX4_saysTheSameAs_16 : decode cX4_saysTheSameAs 16 = .ok (.iload_n 2, 1) := by decide +kernel
theorem dX4_saysTheSameAs_17 : decode cX4_saysTheSameAs 17 = .ok (.if_icmp .ge 26, 3) := by decide +kernel
theorem dX4_saysTheSameAs_20 : decode cX4_saysTheSameAs 20 = .ok (.aload_n 0, 1) := by decide +kernel
theorem dX4_saysTheSameAs_21 : decode cX4_saysTheSameAs 21 = .ok (.getfield 9, 3) := by decide +kernel
theorem dX4_saysTheSameAs_24 : decode cX4_saysTheSameAs 24 = .ok (.iload_n 3, 1) := by decide +kernel
theorem dX4_saysTheSameAs_25 : decode cX4_saysTheSameAs 25 = .ok (.iaload, 1) := by decide +kernel
theorem dX4_saysTheSameAs_26 : decode cX4_saysTheSameAs 26 = .ok (.aload_n 1, 1) := by decide +kernel
theorem dX4_saysTheSameAs_27 : decode cX4_saysTheSameAs 27 = .ok (.getfield 9, 3) := by decide +kernel
theorem dX4_saysTheSameAs_30 : decode cX4_saysTheSameAs 30 = .ok (.iload_n 3, 1) := by decide +kernel
theorem dX4_saysTheSameAs_31 : decode cX4_saysTheSameAs 31 = .ok (.iaload, 1) := by decide +kernel
theorem dX4_saysTheSameAs_32 : decode cX4_saysTheSameAs 32 = .ok (.if_icmp .eq 5, 3) := by decide +kernel
theorem dX4_saysTheSameAs_35 : decode cX4_saysTheSameAs 35 = .ok (.iconst 0, 1) := by decide +kernel
theorem dX4_saysTheSameAs_36 : decode cX4_saysTheSameAs 36 = .ok (.ireturn, 1) := by decide +kernel
theorem dX4_saysTheSameAs_37 : decode cX4_saysTheSameAs 37 = .ok (.iinc 3 1, 3) := by decide +kernel
theorem dX4_saysTheSameAs_40 : decode cX4_saysTheSameAs 40 = .ok (.goto (-25), 3) := by decide +kernel
theorem dX4_saysTheSameAs_43 : decode cX4_saysTheSameAs 43 = .ok (.iconst 1, 1) := by decide +kernel
theorem dX4_saysTheSameAs_44 : decode cX4_saysTheSameAs 44 = .ok (.ireturn, 1) := by decide +kernel
theorem dX4_shown_0 : decode cX4_shown 0 = .ok (.iload_n 1, 1) := by decide +kernel
theorem dX4_shown_1 : decode cX4_shown 1 = .ok (.tableswitch 63 0 2 #[27, 49, 56], 27) := by decide +kernel
theorem dX4_shown_28 : decode cX4_shown 28 = .ok (.aload_n 0, 1) := by decide +kernel
theorem dX4_shown_29 : decode cX4_shown 29 = .ok (.getfield 34, 3) := by decide +kernel
theorem dX4_shown_32 : decode cX4_shown 32 = .ok (.iconst 2, 1) := by decide +kernel
theorem dX4_shown_33 : decode cX4_shown 33 = .ok (.if_icmp .ne 10, 3) := by decide +kernel
theorem dX4_shown_36 : decode cX4_shown 36 = .ok (.aload_n 0, 1) := by decide +kernel
theorem dX4_shown_37 : decode cX4_shown 37 = .ok (.getfield 43, 3) := by decide +kernel
theorem dX4_shown_40 : decode cX4_shown 40 = .ok (.goto 9, 3) := by decide +kernel
theorem dX4_shown_43 : decode cX4_shown 43 = .ok (.aload_n 0, 1) := by decide +kernel
theorem dX4_shown_44 : decode cX4_shown 44 = .ok (.getfield 15, 3) := by decide +kernel
theorem dX4_shown_47 : decode cX4_shown 47 = .ok (.iload_n 2, 1) := by decide +kernel
theorem dX4_shown_48 : decode cX4_shown 48 = .ok (.iaload, 1) := by decide +kernel
theorem dX4_shown_49 : decode cX4_shown 49 = .ok (.ireturn, 1) := by decide +kernel
theorem dX4_shown_50 : decode cX4_shown 50 = .ok (.aload_n 0, 1) := by decide +kernel
theorem dX4_shown_51 : decode cX4_shown 51 = .ok (.getfield 18, 3) := by decide +kernel
theorem dX4_shown_54 : decode cX4_shown 54 = .ok (.iload_n 2, 1) := by decide +kernel
theorem dX4_shown_55 : decode cX4_shown 55 = .ok (.iaload, 1) := by decide +kernel
theorem dX4_shown_56 : decode cX4_shown 56 = .ok (.ireturn, 1) := by decide +kernel
theorem dX4_shown_57 : decode cX4_shown 57 = .ok (.aload_n 0, 1) := by decide +kernel
theorem dX4_shown_58 : decode cX4_shown 58 = .ok (.getfield 21, 3) := by decide +kernel
theorem dX4_shown_61 : decode cX4_shown 61 = .ok (.iload_n 2, 1) := by decide +kernel
theorem dX4_shown_62 : decode cX4_shown 62 = .ok (.iaload, 1) := by decide +kernel
theorem dX4_shown_63 : decode cX4_shown 63 = .ok (.ireturn, 1) := by decide +kernel
theorem dX4_shown_64 : decode cX4_shown 64 = .ok (.aload_n 0, 1) := by decide +kernel
theorem dX4_shown_65 : decode cX4_shown 65 = .ok (.getfield 40, 3) := by decide +kernel
theorem dX4_shown_68 : decode cX4_shown 68 = .ok (.ireturn, 1) := by decide +kernel
theorem dX4_showOtherwise_0 : decode cX4_showOtherwise 0 = .ok (.iload_n 1, 1) := by decide +kernel
theorem dX4_showOtherwise_1 : decode cX4_showOtherwise 1 = .ok (.tableswitch 73 0 2 #[27, 53, 63], 27) := by decide +kernel
theorem dX4_showOtherwise_28 : decode cX4_showOtherwise 28 = .ok (.aload_n 0, 1) := by decide +kernel
theorem dX4_showOtherwise_29 : decode cX4_showOtherwise 29 = .ok (.getfield 34, 3) := by decide +kernel
theorem dX4_showOtherwise_32 : decode cX4_showOtherwise 32 = .ok (.iconst 2, 1) := by decide +kernel
theorem dX4_showOtherwise_33 : decode cX4_showOtherwise 33 = .ok (.if_icmp .ne 11, 3) := by decide +kernel
theorem dX4_showOtherwise_36 : decode cX4_showOtherwise 36 = .ok (.aload_n 0, 1) := by decide +kernel
theorem dX4_showOtherwise_37 : decode cX4_showOtherwise 37 = .ok (.iload_n 3, 1) := by decide +kernel
theorem dX4_showOtherwise_38 : decode cX4_showOtherwise 38 = .ok (.putfield 43, 3) := by decide +kernel
theorem dX4_showOtherwise_41 : decode cX4_showOtherwise 41 = .ok (.goto 38, 3) := by decide +kernel
theorem dX4_showOtherwise_44 : decode cX4_showOtherwise 44 = .ok (.aload_n 0, 1) := by decide +kernel
theorem dX4_showOtherwise_45 : decode cX4_showOtherwise 45 = .ok (.getfield 15, 3) := by decide +kernel
theorem dX4_showOtherwise_48 : decode cX4_showOtherwise 48 = .ok (.iload_n 2, 1) := by decide +kernel
theorem dX4_showOtherwise_49 : decode cX4_showOtherwise 49 = .ok (.iload_n 3, 1) := by decide +kernel
theorem dX4_showOtherwise_50 : decode cX4_showOtherwise 50 = .ok (.iastore, 1) := by decide +kernel
theorem dX4_showOtherwise_51 : decode cX4_showOtherwise 51 = .ok (.goto 28, 3) := by decide +kernel
theorem dX4_showOtherwise_54 : decode cX4_showOtherwise 54 = .ok (.aload_n 0, 1) := by decide +kernel
theorem dX4_showOtherwise_55 : decode cX4_showOtherwise 55 = .ok (.getfield 18, 3) := by decide +kernel
theorem dX4_showOtherwise_58 : decode cX4_showOtherwise 58 = .ok (.iload_n 2, 1) := by decide +kernel
theorem dX4_showOtherwise_59 : decode cX4_showOtherwise 59 = .ok (.iload_n 3, 1) := by decide +kernel
theorem dX4_showOtherwise_60 : decode cX4_showOtherwise 60 = .ok (.iastore, 1) := by decide +kernel
theorem dX4_showOtherwise_61 : decode cX4_showOtherwise 61 = .ok (.goto 18, 3) := by decide +kernel
theorem dX4_showOtherwise_64 : decode cX4_showOtherwise 64 = .ok (.aload_n 0, 1) := by decide +kernel
theorem dX4_showOtherwise_65 : decode cX4_showOtherwise 65 = .ok (.getfield 21, 3) := by decide +kernel
theorem dX4_showOtherwise_68 : decode cX4_showOtherwise 68 = .ok (.iload_n 2, 1) := by decide +kernel
theorem dX4_showOtherwise_69 : decode cX4_showOtherwise 69 = .ok (.iload_n 3, 1) := by decide +kernel
theorem dX4_showOtherwise_70 : decode cX4_showOtherwise 70 = .ok (.iastore, 1) := by decide +kernel
theorem dX4_showOtherwise_71 : decode cX4_showOtherwise 71 = .ok (.goto 8, 3) := by decide +kernel
theorem dX4_showOtherwise_74 : decode cX4_showOtherwise 74 = .ok (.aload_n 0, 1) := by decide +kernel
theorem dX4_showOtherwise_75 : decode cX4_showOtherwise 75 = .ok (.iload_n 3, 1) := by decide +kernel
theorem dX4_showOtherwise_76 : decode cX4_showOtherwise 76 = .ok (.putfield 40, 3) := by decide +kernel
theorem dX4_showOtherwise_79 : decode cX4_showOtherwise 79 = .ok (.return_, 1) := by decide +kernel
theorem dX5_init_0 : decode cX5_init 0 = .ok (.aload_n 0, 1) := by decide +kernel
theorem dX5_init_1 : decode cX5_init 1 = .ok (.invokespecial 3, 3) := by decide +kernel
theorem dX5_init_4 : decode cX5_init 4 = .ok (.aload_n 0, 1) := by decide +kernel
theorem dX5_init_5 : decode cX5_init 5 = .ok (.bipush 41, 2) := by decide +kernel
theorem dX5_init_7 : decode cX5_init 7 = .ok (.anewarray 9, 3) := by decide +kernel
theorem dX5_init_10 : decode cX5_init 10 = .ok (.putfield 11, 3) := by decide +kernel
theorem dX5_init_13 : decode cX5_init 13 = .ok (.aload_n 0, 1) := by decide +kernel
theorem dX5_init_14 : decode cX5_init 14 = .ok (.iconst 1, 1) := by decide +kernel
theorem dX5_init_15 : decode cX5_init 15 = .ok (.putfield 17, 3) := by decide +kernel
theorem dX5_init_18 : decode cX5_init 18 = .ok (.aload_n 0, 1) := by decide +kernel
theorem dX5_init_19 : decode cX5_init 19 = .ok (.aload_n 1, 1) := by decide +kernel
theorem dX5_init_20 : decode cX5_init 20 = .ok (.putfield 21, 3) := by decide +kernel
theorem dX5_init_23 : decode cX5_init 23 = .ok (.iconst 0, 1) := by decide +kernel
theorem dX5_init_24 : decode cX5_init 24 = .ok (.istore_n 2, 1) := by decide +kernel
theorem dX5_init_25 : decode cX5_init 25 = .ok (.iload_n 2, 1) := by decide +kernel
theorem dX5_init_26 : decode cX5_init 26 = .ok (.aload_n 0, 1) := by decide +kernel
theorem dX5_init_27 : decode cX5_init 27 = .ok (.getfield 11, 3) := by decide +kernel
theorem dX5_init_30 : decode cX5_init 30 = .ok (.arraylength, 1) := by decide +kernel
theorem dX5_init_31 : decode cX5_init 31 = .ok (.if_icmp .ge 22, 3) := by decide +kernel
theorem dX5_init_34 : decode cX5_init 34 = .ok (.aload_n 0, 1) := by decide +kernel
theorem dX5_init_35 : decode cX5_init 35 = .ok (.getfield 11, 3) := by decide +kernel
theorem dX5_init_38 : decode cX5_init 38 = .ok (.iload_n 2, 1) := by decide +kernel
theorem dX5_init_39 : decode cX5_init 39 = .ok (.new 9, 3) := by decide +kernel
theorem dX5_init_42 : decode cX5_init 42 = .ok (.dup, 1) := by decide +kernel
theorem dX5_init_43 : decode cX5_init 43 = .ok (.invokespecial 25, 3) := by decide +kernel
theorem dX5_init_46 : decode cX5_init 46 = .ok (.aastore, 1) := by decide +kernel
theorem dX5_init_47 : decode cX5_init 47 = .ok (.iinc 2 1, 3) := by decide +kernel
theorem dX5_init_50 : decode cX5_init 50 = .ok (.goto (-25), 3) := by decide +kernel
theorem dX5_init_53 : decode cX5_init 53 = .ok (.return_, 1) := by decide +kernel
theorem dX5_has_0 : decode cX5_has 0 = .ok (.iload_n 1, 1) := by decide +kernel
theorem dX5_has_1 : decode cX5_has 1 = .ok (.ifCond .lt 15, 3) := by decide +kernel
theorem dX5_has_4 : decode cX5_has 4 = .ok (.iload_n 1, 1) := by decide +kernel
theorem dX5_has_5 : decode cX5_has 5 = .ok (.aload_n 0, 1) := by decide +kernel
theorem dX5_has_6 : decode cX5_has 6 = .ok (.getfield 26, 3) := by decide +kernel
theorem dX5_has_9 : decode cX5_has 9 = .ok (.if_icmp .ge 7, 3) := by decide +kernel
theorem dX5_has_12 : decode cX5_has 12 = .ok (.iconst 1, 1) := by decide +kernel
theorem dX5_has_13 : decode cX5_has 13 = .ok (.goto 4, 3) := by decide +kernel
theorem dX5_has_16 : decode cX5_has 16 = .ok (.iconst 0, 1) := by decide +kernel
theorem dX5_has_17 : decode cX5_has 17 = .ok (.ireturn, 1) := by decide +kernel
theorem dX5_newDraft_0 : decode cX5_newDraft 0 = .ok (.aload_n 0, 1) := by decide +kernel
theorem dX5_newDraft_1 : decode cX5_newDraft 1 = .ok (.getfield 11, 3) := by decide +kernel
theorem dX5_newDraft_4 : decode cX5_newDraft 4 = .ok (.aload_n 0, 1) := by decide +kernel
theorem dX5_newDraft_5 : decode cX5_newDraft 5 = .ok (.getfield 26, 3) := by decide +kernel
theorem dX5_newDraft_8 : decode cX5_newDraft 8 = .ok (.aaload, 1) := by decide +kernel
theorem dX5_newDraft_9 : decode cX5_newDraft 9 = .ok (.astore_n 2, 1) := by decide +kernel
theorem dX5_newDraft_10 : decode cX5_newDraft 10 = .ok (.aload_n 2, 1) := by decide +kernel
theorem dX5_newDraft_11 : decode cX5_newDraft 11 = .ok (.iload_n 1, 1) := by decide +kernel
theorem dX5_newDraft_12 : decode cX5_newDraft 12 = .ok (.invokevirtual 30, 3) := by decide +kernel
theorem dX5_newDraft_15 : decode cX5_newDraft 15 = .ok (.aload_n 2, 1) := by decide +kernel
theorem dX5_newDraft_16 : decode cX5_newDraft 16 = .ok (.areturn, 1) := by decide +kernel
theorem dX5_settleDraft_0 : decode cX5_settleDraft 0 = .ok (.aload_n 0, 1) := by decide +kernel
theorem dX5_settleDraft_1 : decode cX5_settleDraft 1 = .ok (.getfield 21, 3) := by decide +kernel
theorem dX5_settleDraft_4 : decode cX5_settleDraft 4 = .ok (.aload_n 0, 1) := by decide +kernel
theorem dX5_settleDraft_5 : decode cX5_settleDraft 5 = .ok (.getfield 11, 3) := by decide +kernel
theorem dX5_settleDraft_8 : decode cX5_settleDraft 8 = .ok (.aload_n 0, 1) := by decide +kernel
theorem dX5_settleDraft_9 : decode cX5_settleDraft 9 = .ok (.getfield 26, 3) := by decide +kernel
theorem dX5_settleDraft_12 : decode cX5_settleDraft 12 = .ok (.aaload, 1) := by decide +kernel
theorem dX5_settleDraft_13 : decode cX5_settleDraft 13 = .ok (.invokevirtual 34, 3) := by decide +kernel
theorem dX5_settleDraft_16 : decode cX5_settleDraft 16 = .ok (.lconst 0, 1) := by decide +kernel
theorem dX5_settleDraft_17 : decode cX5_settleDraft 17 = .ok (.lcmp, 1) := by decide +kernel
theorem dX5_settleDraft_18 : decode cX5_settleDraft 18 = .ok (.ifCond .le 19, 3) := by decide +kernel
theorem dX5_settleDraft_21 : decode cX5_settleDraft 21 = .ok (.aload_n 0, 1) := by decide +kernel
theorem dX5_settleDraft_22 : decode cX5_settleDraft 22 = .ok (.aload_n 0, 1) := by decide +kernel
theorem dX5_settleDraft_23 : decode cX5_settleDraft 23 = .ok (.getfield 11, 3) := by decide +kernel
theorem dX5_settleDraft_26 : decode cX5_settleDraft 26 = .ok (.aload_n 0, 1) := by decide +kernel
theorem dX5_settleDraft_27 : decode cX5_settleDraft 27 = .ok (.getfield 26, 3) := by decide +kernel
theorem dX5_settleDraft_30 : decode cX5_settleDraft 30 = .ok (.aaload, 1) := by decide +kernel
theorem dX5_settleDraft_31 : decode cX5_settleDraft 31 = .ok (.invokevirtual 40, 3) := by decide +kernel
theorem dX5_settleDraft_34 : decode cX5_settleDraft 34 = .ok (.ifCond .eq 5, 3) := by decide +kernel
theorem dX5_settleDraft_37 : decode cX5_settleDraft 37 = .ok (.iconst 1, 1) := by decide +kernel
theorem dX5_settleDraft_38 : decode cX5_settleDraft 38 = .ok (.ireturn, 1) := by decide +kernel
theorem dX5_settleDraft_39 : decode cX5_settleDraft 39 = .ok (.aload_n 0, 1) := by decide +kernel
theorem dX5_settleDraft_40 : decode cX5_settleDraft 40 = .ok (.getfield 26, 3) := by decide +kernel
theorem dX5_settleDraft_43 : decode cX5_settleDraft 43 = .ok (.bipush 40, 2) := by decide +kernel
theorem dX5_settleDraft_45 : decode cX5_settleDraft 45 = .ok (.if_icmp .lt 10, 3) := by decide +kernel
theorem dX5_settleDraft_48 : decode cX5_settleDraft 48 = .ok (.aload_n 0, 1) := by decide +kernel
theorem dX5_settleDraft_49 : decode cX5_settleDraft 49 = .ok (.iconst 0, 1) := by decide +kernel
theorem dX5_settleDraft_50 : decode cX5_settleDraft 50 = .ok (.putfield 17, 3) := by decide +kernel
theorem dX5_settleDraft_53 : decode cX5_settleDraft 53 = .ok (.iconst 0, 1) := by decide +kernel
theorem dX5_settleDraft_54 : decode cX5_settleDraft 54 = .ok (.ireturn, 1) := by decide +kernel
theorem dX5_settleDraft_55 : decode cX5_settleDraft 55 = .ok (.aload_n 0, 1) := by decide +kernel
theorem dX5_settleDraft_56 : decode cX5_settleDraft 56 = .ok (.dup, 1) := by decide +kernel
theorem dX5_settleDraft_57 : decode cX5_settleDraft 57 = .ok (.getfield 26, 3) := by decide +kernel
theorem dX5_settleDraft_60 : decode cX5_settleDraft 60 = .ok (.iconst 1, 1) := by decide +kernel
theorem dX5_settleDraft_61 : decode cX5_settleDraft 61 = .ok (.iadd, 1) := by decide +kernel
theorem dX5_settleDraft_62 : decode cX5_settleDraft 62 = .ok (.putfield 26, 3) := by decide +kernel
theorem dX5_settleDraft_65 : decode cX5_settleDraft 65 = .ok (.iconst 1, 1) := by decide +kernel
theorem dX5_settleDraft_66 : decode cX5_settleDraft 66 = .ok (.ireturn, 1) := by decide +kernel
theorem dX5_isToldAlready_0 : decode cX5_isToldAlready 0 = .ok (.iconst 0, 1) := by decide +kernel
theorem dX5_isToldAlready_1 : decode cX5_isToldAlready 1 = .ok (.istore_n 2, 1) := by decide +kernel
theorem dX5_isToldAlready_2 : decode cX5_isToldAlready 2 = .ok (.iload_n 2, 1) := by decide +kernel
theorem dX5_isToldAlready_3 : decode cX5_isToldAlready 3 = .ok (.aload_n 0, 1) := by decide +kernel
theorem dX5_isToldAlready_4 : decode cX5_isToldAlready 4 = .ok (.getfield 26, 3) := by decide +kernel
theorem dX5_isToldAlready_7 : decode cX5_isToldAlready 7 = .ok (.if_icmp .ge 31, 3) := by decide +kernel
theorem dX5_isToldAlready_10 : decode cX5_isToldAlready 10 = .ok (.aload_n 0, 1) := by decide +kernel
theorem dX5_isToldAlready_11 : decode cX5_isToldAlready 11 = .ok (.getfield 11, 3) := by decide +kernel
theorem dX5_isToldAlready_14 : decode cX5_isToldAlready 14 = .ok (.iload_n 2, 1) := by decide +kernel
theorem dX5_isToldAlready_15 : decode cX5_isToldAlready 15 = .ok (.aaload, 1) := by decide +kernel
theorem dX5_isToldAlready_16 : decode cX5_isToldAlready 16 = .ok (.aload_n 1, 1) := by decide +kernel
theorem dX5_isToldAlready_17 : decode cX5_isToldAlready 17 = .ok (.aload_n 0, 1) := by decide +kernel
theorem dX5_isToldAlready_18 : decode cX5_isToldAlready 18 = .ok (.getfield 21, 3) := by decide +kernel
theorem dX5_isToldAlready_21 : decode cX5_isToldAlready 21 = .ok (.getfield 44, 3) := by decide +kernel
theorem dX5_isToldAlready_24 : decode cX5_isToldAlready 24 = .ok (.invokevirtual 47, 3) := by decide +kernel
theorem dX5_isToldAlready_27 : decode cX5_isToldAlready 27 = .ok (.ifCond .eq 5, 3) := by decide +kernel
theorem dX5_isToldAlready_30 : decode cX5_isToldAlready 30 = .ok (.iconst 1, 1) := by decide +kernel
theorem dX5_isToldAlready_31 : decode cX5_isToldAlready 31 = .ok (.ireturn, 1) := by decide +kernel
theorem dX5_isToldAlready_32 : decode cX5_isToldAlready 32 = .ok (.iinc 2 1, 3) := by decide +kernel
theorem dX5_isToldAlready_35 : decode cX5_isToldAlready 35 = .ok (.goto (-33), 3) := by decide +kernel
theorem dX5_isToldAlready_38 : decode cX5_isToldAlready 38 = .ok (.iconst 0, 1) := by decide +kernel
theorem dX5_isToldAlready_39 : decode cX5_isToldAlready 39 = .ok (.ireturn, 1) := by decide +kernel
theorem dX5_ageAll_0 : decode cX5_ageAll 0 = .ok (.iconst 0, 1) := by decide +kernel
theorem dX5_ageAll_1 : decode cX5_ageAll 1 = .ok (.istore_n 1, 1) := by decide +kernel
theorem dX5_ageAll_2 : decode cX5_ageAll 2 = .ok (.aload_n 0, 1) := by decide +kernel
theorem dX5_ageAll_3 : decode cX5_ageAll 3 = .ok (.getfield 26, 3) := by decide +kernel
theorem dX5_ageAll_6 : decode cX5_ageAll 6 = .ok (.istore_n 2, 1) := by decide +kernel
theorem dX5_ageAll_7 : decode cX5_ageAll 7 = .ok (.iconst 0, 1) := by decide +kernel
theorem dX5_ageAll_8 : decode cX5_ageAll 8 = .ok (.istore_n 3, 1) := by decide +kernel
theorem dX5_ageAll_9 : decode cX5_ageAll 9 = .ok (.iload_n 3, 1) := by decide +kernel
theorem dX5_ageAll_10 : decode cX5_ageAll 10 = .ok (.iload_n 2, 1) := by decide +kernel
theorem dX5_ageAll_11 : decode cX5_ageAll 11 = .ok (.if_icmp .ge 82, 3) := by decide +kernel
theorem dX5_ageAll_14 : decode cX5_ageAll 14 = .ok (.aload_n 0, 1) := by decide +kernel
theorem dX5_ageAll_15 : decode cX5_ageAll 15 = .ok (.getfield 11, 3) := by decide +kernel
theorem dX5_ageAll_18 : decode cX5_ageAll 18 = .ok (.iload_n 3, 1) := by decide +kernel
theorem dX5_ageAll_19 : decode cX5_ageAll 19 = .ok (.aaload, 1) := by decide +kernel
theorem dX5_ageAll_20 : decode cX5_ageAll 20 = .ok (.astore 4, 2) := by decide +kernel
theorem dX5_ageAll_22 : decode cX5_ageAll 22 = .ok (.aload 4, 2) := by decide +kernel
theorem dX5_ageAll_24 : decode cX5_ageAll 24 = .ok (.aload_n 0, 1) := by decide +kernel
theorem dX5_ageAll_25 : decode cX5_ageAll 25 = .ok (.getfield 21, 3) := by decide +kernel
theorem dX5_ageAll_28 : decode cX5_ageAll 28 = .ok (.aload 4, 2) := by decide +kernel
theorem dX5_ageAll_30 : decode cX5_ageAll 30 = .ok (.invokevirtual 34, 3) := by decide +kernel
theorem dX5_ageAll_33 : decode cX5_ageAll 33 = .ok (.lconst 0, 1) := by decide +kernel
theorem dX5_ageAll_34 : decode cX5_ageAll 34 = .ok (.lcmp, 1) := by decide +kernel
theorem dX5_ageAll_35 : decode cX5_ageAll 35 = .ok (.ifCond .ge 13, 3) := by decide +kernel
theorem dX5_ageAll_38 : decode cX5_ageAll 38 = .ok (.aload 4, 2) := by decide +kernel
theorem dX5_ageAll_40 : decode cX5_ageAll 40 = .ok (.getfield 51, 3) := by decide +kernel
theorem dX5_ageAll_43 : decode cX5_ageAll 43 = .ok (.iconst 1, 1) := by decide +kernel
theorem dX5_ageAll_44 : decode cX5_ageAll 44 = .ok (.iadd, 1) := by decide +kernel
theorem dX5_ageAll_45 : decode cX5_ageAll 45 = .ok (.goto 4, 3) := by decide +kernel
theorem dX5_ageAll_48 : decode cX5_ageAll 48 = .ok (.iconst 0, 1) := by decide +kernel
theorem dX5_ageAll_49 : decode cX5_ageAll 49 = .ok (.putfield 51, 3) := by decide +kernel
theorem dX5_ageAll_52 : decode cX5_ageAll 52 = .ok (.aload 4, 2) := by decide +kernel
theorem dX5_ageAll_54 : decode cX5_ageAll 54 = .ok (.getfield 51, 3) := by decide +kernel
theorem dX5_ageAll_57 : decode cX5_ageAll 57 = .ok (.iconst 3, 1) := by decide +kernel
theorem dX5_ageAll_58 : decode cX5_ageAll 58 = .ok (.if_icmp .lt 6, 3) := by decide +kernel
theorem dX5_ageAll_61 : decode cX5_ageAll 61 = .ok (.goto 26, 3) := by decide +kernel
theorem dX5_ageAll_64 : decode cX5_ageAll 64 = .ok (.aload_n 0, 1) := by decide +kernel
theorem dX5_ageAll_65 : decode cX5_ageAll 65 = .ok (.getfield 11, 3) := by decide +kernel
theorem dX5_ageAll_68 : decode cX5_ageAll 68 = .ok (.iload_n 3, 1) := by decide +kernel
theorem dX5_ageAll_69 : decode cX5_ageAll 69 = .ok (.aload_n 0, 1) := by decide +kernel
theorem dX5_ageAll_70 : decode cX5_ageAll 70 = .ok (.getfield 11, 3) := by decide +kernel
theorem dX5_ageAll_73 : decode cX5_ageAll 73 = .ok (.iload_n 1, 1) := by decide +kernel
theorem dX5_ageAll_74 : decode cX5_ageAll 74 = .ok (.aaload, 1) := by decide +kernel
theorem dX5_ageAll_75 : decode cX5_ageAll 75 = .ok (.aastore, 1) := by decide +kernel
theorem dX5_ageAll_76 : decode cX5_ageAll 76 = .ok (.aload_n 0, 1) := by decide +kernel
theorem dX5_ageAll_77 : decode cX5_ageAll 77 = .ok (.getfield 11, 3) := by decide +kernel
theorem dX5_ageAll_80 : decode cX5_ageAll 80 = .ok (.iload_n 1, 1) := by decide +kernel
theorem dX5_ageAll_81 : decode cX5_ageAll 81 = .ok (.aload 4, 2) := by decide +kernel
theorem dX5_ageAll_83 : decode cX5_ageAll 83 = .ok (.aastore, 1) := by decide +kernel
theorem dX5_ageAll_84 : decode cX5_ageAll 84 = .ok (.iinc 1 1, 3) := by decide +kernel
theorem dX5_ageAll_87 : decode cX5_ageAll 87 = .ok (.iinc 3 1, 3) := by decide +kernel
theorem dX5_ageAll_90 : decode cX5_ageAll 90 = .ok (.goto (-81), 3) := by decide +kernel
theorem dX5_ageAll_93 : decode cX5_ageAll 93 = .ok (.aload_n 0, 1) := by decide +kernel
theorem dX5_ageAll_94 : decode cX5_ageAll 94 = .ok (.iload_n 1, 1) := by decide +kernel
theorem dX5_ageAll_95 : decode cX5_ageAll 95 = .ok (.putfield 26, 3) := by decide +kernel
theorem dX5_ageAll_98 : decode cX5_ageAll 98 = .ok (.iload_n 2, 1) := by decide +kernel
theorem dX5_ageAll_99 : decode cX5_ageAll 99 = .ok (.iload_n 1, 1) := by decide +kernel
theorem dX5_ageAll_100 : decode cX5_ageAll 100 = .ok (.isub, 1) := by decide +kernel
theorem dX5_ageAll_101 : decode cX5_ageAll 101 = .ok (.ireturn, 1) := by decide +kernel
end
section
theorem dX6_init_0 : decode cX6_init 0 = .ok (.aload_n 0, 1) := by decide +kernel
theorem dX6_init_1 : decode cX6_init 1 = .ok (.invokespecial 3, 3) := by decide +kernel
theorem dX6_init_4 : decode cX6_init 4 = .ok (.aload_n 0, 1) := by decide +kernel
theorem dX6_init_5 : decode cX6_init 5 = .ok (.bipush 8, 2) := by decide +kernel
theorem dX6_init_7 : decode cX6_init 7 = .ok (.newarray .int, 2) := by decide +kernel
theorem dX6_init_9 : decode cX6_init 9 = .ok (.putfield 9, 3) := by decide +kernel
theorem dX6_init_12 : decode cX6_init 12 = .ok (.aload_n 0, 1) := by decide +kernel
theorem dX6_init_13 : decode cX6_init 13 = .ok (.bipush 8, 2) := by decide +kernel
theorem dX6_init_15 : decode cX6_init 15 = .ok (.newarray .int, 2) := by decide +kernel
theorem dX6_init_17 : decode cX6_init 17 = .ok (.putfield 15, 3) := by decide +kernel
theorem dX6_init_20 : decode cX6_init 20 = .ok (.aload_n 0, 1) := by decide +kernel
theorem dX6_init_21 : decode cX6_init 21 = .ok (.bipush 8, 2) := by decide +kernel
theorem dX6_init_23 : decode cX6_init 23 = .ok (.newarray .long, 2) := by decide +kernel
theorem dX6_init_25 : decode cX6_init 25 = .ok (.putfield 18, 3) := by decide +kernel
theorem dX6_init_28 : decode cX6_init 28 = .ok (.aload_n 0, 1) := by decide +kernel
theorem dX6_init_29 : decode cX6_init 29 = .ok (.bipush 10, 2) := by decide +kernel
theorem dX6_init_31 : decode cX6_init 31 = .ok (.bipush 8, 2) := by decide +kernel
theorem dX6_init_33 : decode cX6_init 33 = .ok (.multianewarray 22 2, 4) := by decide +kernel
theorem dX6_init_37 : decode cX6_init 37 = .ok (.putfield 24, 3) := by decide +kernel
theorem dX6_init_40 : decode cX6_init 40 = .ok (.aload_n 0, 1) := by decide +kernel
theorem dX6_init_41 : decode cX6_init 41 = .ok (.bipush 10, 2) := by decide +kernel
theorem dX6_init_43 : decode cX6_init 43 = .ok (.newarray .int, 2) := by decide +kernel
theorem dX6_init_45 : decode cX6_init 45 = .ok (.putfield 27, 3) := by decide +kernel
theorem dX6_init_48 : decode cX6_init 48 = .ok (.return_, 1) := by decide +kernel
theorem dX6_hasName_0 : decode cX6_hasName 0 = .ok (.iload_n 1, 1) := by decide +kernel
theorem dX6_hasName_1 : decode cX6_hasName 1 = .ok (.ifCond .lt 15, 3) := by decide +kernel
theorem dX6_hasName_4 : decode cX6_hasName 4 = .ok (.iload_n 1, 1) := by decide +kernel
theorem dX6_hasName_5 : decode cX6_hasName 5 = .ok (.aload_n 0, 1) := by decide +kernel
theorem dX6_hasName_6 : decode cX6_hasName 6 = .ok (.getfield 30, 3) := by decide +kernel
theorem dX6_hasName_9 : decode cX6_hasName 9 = .ok (.if_icmp .ge 7, 3) := by decide +kernel
theorem dX6_hasName_12 : decode cX6_hasName 12 = .ok (.iconst 1, 1) := by decide +kernel
theorem dX6_hasName_13 : decode cX6_hasName 13 = .ok (.goto 4, 3) := by decide +kernel
theorem dX6_hasName_16 : decode cX6_hasName 16 = .ok (.iconst 0, 1) := by decide +kernel
theorem dX6_hasName_17 : decode cX6_hasName 17 = .ok (.ireturn, 1) := by decide +kernel
theorem dX6_hasRow_0 : decode cX6_hasRow 0 = .ok (.iload_n 1, 1) := by decide +kernel
theorem dX6_hasRow_1 : decode cX6_hasRow 1 = .ok (.ifCond .lt 15, 3) := by decide +kernel
theorem dX6_hasRow_4 : decode cX6_hasRow 4 = .ok (.iload_n 1, 1) := by decide +kernel
theorem dX6_hasRow_5 : decode cX6_hasRow 5 = .ok (.aload_n 0, 1) := by decide +kernel
theorem dX6_hasRow_6 : decode cX6_hasRow 6 = .ok (.getfield 34, 3) := by decide +kernel
theorem dX6_hasRow_9 : decode cX6_hasRow 9 = .ok (.if_icmp .ge 7, 3) := by decide +kernel
theorem dX6_hasRow_12 : decode cX6_hasRow 12 = .ok (.iconst 1, 1) := by decide +kernel
theorem dX6_hasRow_13 : decode cX6_hasRow 13 = .ok (.goto 4, 3) := by decide +kernel
theorem dX6_hasRow_16 : decode cX6_hasRow 16 = .ok (.iconst 0, 1) := by decide +kernel
theorem dX6_hasRow_17 : decode cX6_hasRow 17 = .ok (.ireturn, 1) := by decide +kernel
theorem dX6_addName_0 : decode cX6_addName 0 = .ok (.aload_n 0, 1) := by decide +kernel
theorem dX6_addName_1 : decode cX6_addName 1 = .ok (.getfield 9, 3) := by decide +kernel
theorem dX6_addName_4 : decode cX6_addName 4 = .ok (.aload_n 0, 1) := by decide +kernel
theorem dX6_addName_5 : decode cX6_addName 5 = .ok (.getfield 30, 3) := by decide +kernel
theorem dX6_addName_8 : decode cX6_addName 8 = .ok (.iload_n 1, 1) := by decide +kernel
theorem dX6_addName_9 : decode cX6_addName 9 = .ok (.iastore, 1) := by decide +kernel
theorem dX6_addName_10 : decode cX6_addName 10 = .ok (.aload_n 0, 1) := by decide +kernel
theorem dX6_addName_11 : decode cX6_addName 11 = .ok (.getfield 15, 3) := by decide +kernel
theorem dX6_addName_14 : decode cX6_addName 14 = .ok (.aload_n 0, 1) := by decide +kernel
theorem dX6_addName_15 : decode cX6_addName 15 = .ok (.getfield 30, 3) := by decide +kernel
theorem dX6_addName_18 : decode cX6_addName 18 = .ok (.iload_n 2, 1) := by decide +kernel
theorem dX6_addName_19 : decode cX6_addName 19 = .ok (.iastore, 1) := by decide +kernel
theorem dX6_addName_20 : decode cX6_addName 20 = .ok (.aload_n 0, 1) := by decide +kernel
theorem dX6_addName_21 : decode cX6_addName 21 = .ok (.getfield 18, 3) := by decide +kernel
theorem dX6_addName_24 : decode cX6_addName 24 = .ok (.aload_n 0, 1) := by decide +kernel
theorem dX6_addName_25 : decode cX6_addName 25 = .ok (.getfield 30, 3) := by decide +kernel
theorem dX6_addName_28 : decode cX6_addName 28 = .ok (.lconst 0, 1) := by decide +kernel
theorem dX6_addName_29 : decode cX6_addName 29 = .ok (.lastore, 1) := by decide +kernel
theorem dX6_addName_30 : decode cX6_addName 30 = .ok (.iconst 0, 1) := by decide +kernel
theorem dX6_addName_31 : decode cX6_addName 31 = .ok (.istore_n 3, 1) := by decide +kernel
theorem dX6_addName_32 : decode cX6_addName 32 = .ok (.iload_n 3, 1) := by decide +kernel
theorem dX6_addName_33 : decode cX6_addName 33 = .ok (.aload_n 0, 1) := by decide +kernel
theorem dX6_addName_34 : decode cX6_addName 34 = .ok (.getfield 34, 3) := by decide +kernel
theorem dX6_addName_37 : decode cX6_addName 37 = .ok (.if_icmp .ge 21, 3) := by decide +kernel
theorem dX6_addName_40 : decode cX6_addName 40 = .ok (.aload_n 0, 1) := by decide +kernel
theorem dX6_addName_41 : decode cX6_addName 41 = .ok (.getfield 24, 3) := by decide +kernel
theorem dX6_addName_44 : decode cX6_addName 44 = .ok (.iload_n 3, 1) := by decide +kernel
theorem dX6_addName_45 : decode cX6_addName 45 = .ok (.aaload, 1) := by decide +kernel
theorem dX6_addName_46 : decode cX6_addName 46 = .ok (.aload_n 0, 1) := by decide +kernel
theorem dX6_addName_47 : decode cX6_addName 47 = .ok (.getfield 30, 3) := by decide +kernel
theorem dX6_addName_50 : decode cX6_addName 50 = .ok (.iconst 0, 1) := by decide +kernel
theorem dX6_addName_51 : decode cX6_addName 51 = .ok (.iastore, 1) := by decide +kernel
theorem dX6_addName_52 : decode cX6_addName 52 = .ok (.iinc 3 1, 3) := by decide +kernel
theorem dX6_addName_55 : decode cX6_addName 55 = .ok (.goto (-23), 3) := by decide +kernel
theorem dX6_addName_58 : decode cX6_addName 58 = .ok (.aload_n 0, 1) := by decide +kernel
theorem dX6_addName_59 : decode cX6_addName 59 = .ok (.dup, 1) := by decide +kernel
theorem dX6_addName_60 : decode cX6_addName 60 = .ok (.getfield 30, 3) := by decide +kernel
theorem dX6_addName_63 : decode cX6_addName 63 = .ok (.dup_x1, 1) := by decide +kernel
theorem dX6_addName_64 : decode cX6_addName 64 = .ok (.iconst 1, 1) := by decide +kernel
theorem dX6_addName_65 : decode cX6_addName 65 = .ok (.iadd, 1) := by decide +kernel
theorem dX6_addName_66 : decode cX6_addName 66 = .ok (.putfield 30, 3) := by decide +kernel
theorem dX6_addName_69 : decode cX6_addName 69 = .ok (.ireturn, 1) := by decide +kernel
theorem dX6_addRow_0 : decode cX6_addRow 0 = .ok (.aload_n 0, 1) := by decide +kernel
theorem dX6_addRow_1 : decode cX6_addRow 1 = .ok (.getfield 27, 3) := by decide +kernel
theorem dX6_addRow_4 : decode cX6_addRow 4 = .ok (.aload_n 0, 1) := by decide +kernel
theorem dX6_addRow_5 : decode cX6_addRow 5 = .ok (.getfield 34, 3) := by decide +kernel
theorem dX6_addRow_8 : decode cX6_addRow 8 = .ok (.iload_n 1, 1) := by decide +kernel
theorem dX6_addRow_9 : decode cX6_addRow 9 = .ok (.iastore, 1) := by decide +kernel
theorem dX6_addRow_10 : decode cX6_addRow 10 = .ok (.aload_n 0, 1) := by decide +kernel
theorem dX6_addRow_11 : decode cX6_addRow 11 = .ok (.getfield 24, 3) := by decide +kernel
theorem dX6_addRow_14 : decode cX6_addRow 14 = .ok (.aload_n 0, 1) := by decide +kernel
theorem dX6_addRow_15 : decode cX6_addRow 15 = .ok (.getfield 34, 3) := by decide +kernel
theorem dX6_addRow_18 : decode cX6_addRow 18 = .ok (.aaload, 1) := by decide +kernel
theorem dX6_addRow_19 : decode cX6_addRow 19 = .ok (.iconst 0, 1) := by decide +kernel
theorem dX6_addRow_20 : decode cX6_addRow 20 = .ok (.invokestatic 37, 3) := by decide +kernel
theorem dX6_addRow_23 : decode cX6_addRow 23 = .ok (.aload_n 0, 1) := by decide +kernel
theorem dX6_addRow_24 : decode cX6_addRow 24 = .ok (.dup, 1) := by decide +kernel
theorem dX6_addRow_25 : decode cX6_addRow 25 = .ok (.getfield 34, 3) := by decide +kernel
theorem dX6_addRow_28 : decode cX6_addRow 28 = .ok (.dup_x1, 1) := by decide +kernel
theorem dX6_addRow_29 : decode cX6_addRow 29 = .ok (.iconst 1, 1) := by decide +kernel
theorem dX6_addRow_30 : decode cX6_addRow 30 = .ok (.iadd, 1) := by decide +kernel
theorem dX6_addRow_31 : decode cX6_addRow 31 = .ok (.putfield 34, 3) := by decide +kernel
theorem dX6_addRow_34 : decode cX6_addRow 34 = .ok (.ireturn, 1) := by decide +kernel
theorem dX6_isBinary_0 : decode cX6_isBinary 0 = .ok (.aload_n 0, 1) := by decide +kernel
theorem dX6_isBinary_1 : decode cX6_isBinary 1 = .ok (.getfield 9, 3) := by decide +kernel
theorem dX6_isBinary_4 : decode cX6_isBinary 4 = .ok (.iload_n 1, 1) := by decide +kernel
theorem dX6_isBinary_5 : decode cX6_isBinary 5 = .ok (.iaload, 1) := by decide +kernel
theorem dX6_isBinary_6 : decode cX6_isBinary 6 = .ok (.ifCond .ne 17, 3) := by decide +kernel
theorem dX6_isBinary_9 : decode cX6_isBinary 9 = .ok (.aload_n 0, 1) := by decide +kernel
theorem dX6_isBinary_10 : decode cX6_isBinary 10 = .ok (.getfield 15, 3) := by decide +kernel
theorem dX6_isBinary_13 : decode cX6_isBinary 13 = .ok (.iload_n 1, 1) := by decide +kernel
theorem dX6_isBinary_14 : decode cX6_isBinary 14 = .ok (.iaload, 1) := by decide +kernel
theorem dX6_isBinary_15 : decode cX6_isBinary 15 = .ok (.iconst 1, 1) := by decide +kernel
theorem dX6_isBinary_16 : decode cX6_isBinary 16 = .ok (.if_icmp .ne 7, 3) := by decide +kernel
theorem dX6_isBinary_19 : decode cX6_isBinary 19 = .ok (.iconst 1, 1) := by decide +kernel
theorem dX6_isBinary_20 : decode cX6_isBinary 20 = .ok (.goto 4, 3) := by decide +kernel
theorem dX6_isBinary_23 : decode cX6_isBinary 23 = .ok (.iconst 0, 1) := by decide +kernel
theorem dX6_isBinary_24 : decode cX6_isBinary 24 = .ok (.ireturn, 1) := by decide +kernel
theorem dX6_least_0 : decode cX6_least 0 = .ok (.aload_n 0, 1) := by decide +kernel
theorem dX6_least_1 : decode cX6_least 1 = .ok (.getfield 24, 3) := by decide +kernel
theorem dX6_least_4 : decode cX6_least 4 = .ok (.iload_n 1, 1) := by decide +kernel
theorem dX6_least_5 : decode cX6_least 5 = .ok (.aaload, 1) := by decide +kernel
theorem dX6_least_6 : decode cX6_least 6 = .ok (.iload_n 2, 1) := by decide +kernel
theorem dX6_least_7 : decode cX6_least 7 = .ok (.iaload, 1) := by decide +kernel
theorem dX6_least_8 : decode cX6_least 8 = .ok (.aload_n 0, 1) := by decide +kernel
theorem dX6_least_9 : decode cX6_least 9 = .ok (.getfield 24, 3) := by decide +kernel
theorem dX6_least_12 : decode cX6_least 12 = .ok (.iload_n 1, 1) := by decide +kernel
theorem dX6_least_13 : decode cX6_least 13 = .ok (.aaload, 1) := by decide +kernel
theorem dX6_least_14 : decode cX6_least 14 = .ok (.iload_n 2, 1) := by decide +kernel
theorem dX6_least_15 : decode cX6_least 15 = .ok (.iaload, 1) := by decide +kernel
theorem dX6_least_16 : decode cX6_least 16 = .ok (.ifCond .ge 12, 3) := by decide +kernel
theorem dX6_least_19 : decode cX6_least 19 = .ok (.aload_n 0, 1) := by decide +kernel
theorem dX6_least_20 : decode cX6_least 20 = .ok (.getfield 15, 3) := by decide +kernel
theorem dX6_least_23 : decode cX6_least 23 = .ok (.iload_n 2, 1) := by decide +kernel
theorem dX6_least_24 : decode cX6_least 24 = .ok (.iaload, 1) := by decide +kernel
theorem dX6_least_25 : decode cX6_least 25 = .ok (.goto 9, 3) := by decide +kernel
theorem dX6_least_28 : decode cX6_least 28 = .ok (.aload_n 0, 1) := by decide +kernel
theorem dX6_least_29 : decode cX6_least 29 = .ok (.getfield 9, 3) := by decide +kernel
theorem dX6_least_32 : decode cX6_least 32 = .ok (.iload_n 2, 1) := by decide +kernel
theorem dX6_least_33 : decode cX6_least 33 = .ok (.iaload, 1) := by decide +kernel
theorem dX6_least_34 : decode cX6_least 34 = .ok (.imul, 1) := by decide +kernel
theorem dX6_least_35 : decode cX6_least 35 = .ok (.ireturn, 1) := by decide +kernel
theorem dX6_clashAnywhere_0 : decode cX6_clashAnywhere 0 = .ok (.iconst 0, 1) := by decide +kernel
theorem dX6_clashAnywhere_1 : decode cX6_clashAnywhere 1 = .ok (.istore_n 3, 1) := by decide +kernel
theorem dX6_clashAnywhere_2 : decode cX6_clashAnywhere 2 = .ok (.iload_n 3, 1) := by decide +kernel
theorem dX6_clashAnywhere_3 : decode cX6_clashAnywhere 3 = .ok (.aload_n 0, 1) := by decide +kernel
theorem dX6_clashAnywhere_4 : decode cX6_clashAnywhere 4 = .ok (.getfield 34, 3) := by decide +kernel
theorem dX6_clashAnywhere_7 : decode cX6_clashAnywhere 7 = .ok (.if_icmp .ge 21, 3) := by decide +kernel
theorem dX6_clashAnywhere_10 : decode cX6_clashAnywhere 10 = .ok (.aload_n 0, 1) := by decide +kernel
theorem dX6_clashAnywhere_11 : decode cX6_clashAnywhere 11 = .ok (.iload_n 3, 1) := by decide +kernel
theorem dX6_clashAnywhere_12 : decode cX6_clashAnywhere 12 = .ok (.iload_n 1, 1) := by decide +kernel
theorem dX6_clashAnywhere_13 : decode cX6_clashAnywhere 13 = .ok (.iload_n 2, 1) := by decide +kernel
theorem dX6_clashAnywhere_14 : decode cX6_clashAnywhere 14 = .ok (.invokevirtual 43, 3) := by decide +kernel
theorem dX6_clashAnywhere_17 : decode cX6_clashAnywhere 17 = .ok (.ifCond .eq 5, 3) := by decide +kernel
theorem dX6_clashAnywhere_20 : decode cX6_clashAnywhere 20 = .ok (.iconst 1, 1) := by decide +kernel
theorem dX6_clashAnywhere_21 : decode cX6_clashAnywhere 21 = .ok (.ireturn, 1) := by decide +kernel
theorem dX6_clashAnywhere_22 : decode cX6_clashAnywhere 22 = .ok (.iinc 3 1, 3) := by decide +kernel
theorem dX6_clashAnywhere_25 : decode cX6_clashAnywhere 25 = .ok (.goto (-23), 3) := by decide +kernel
theorem dX6_clashAnywhere_28 : decode cX6_clashAnywhere 28 = .ok (.iconst 0, 1) := by decide +kernel
theorem dX6_clashAnywhere_29 : decode cX6_clashAnywhere 29 = .ok (.ireturn, 1) := by decide +kernel
theorem dX6_clashIn_0 : decode cX6_clashIn 0 = .ok (.aload_n 0, 1) := by decide +kernel
theorem dX6_clashIn_1 : decode cX6_clashIn 1 = .ok (.getfield 24, 3) := by decide +kernel
theorem dX6_clashIn_4 : decode cX6_clashIn 4 = .ok (.iload_n 1, 1) := by decide +kernel
theorem dX6_clashIn_5 : decode cX6_clashIn 5 = .ok (.aaload, 1) := by decide +kernel
theorem dX6_clashIn_6 : decode cX6_clashIn 6 = .ok (.iload_n 2, 1) := by decide +kernel
theorem dX6_clashIn_7 : decode cX6_clashIn 7 = .ok (.iaload, 1) := by decide +kernel
theorem dX6_clashIn_8 : decode cX6_clashIn 8 = .ok (.aload_n 0, 1) := by decide +kernel
theorem dX6_clashIn_9 : decode cX6_clashIn 9 = .ok (.getfield 24, 3) := by decide +kernel
theorem dX6_clashIn_12 : decode cX6_clashIn 12 = .ok (.iload_n 1, 1) := by decide +kernel
theorem dX6_clashIn_13 : decode cX6_clashIn 13 = .ok (.aaload, 1) := by decide +kernel
theorem dX6_clashIn_14 : decode cX6_clashIn 14 = .ok (.iload_n 3, 1) := by decide +kernel
theorem dX6_clashIn_15 : decode cX6_clashIn 15 = .ok (.iaload, 1) := by decide +kernel
theorem dX6_clashIn_16 : decode cX6_clashIn 16 = .ok (.iadd, 1) := by decide +kernel
theorem dX6_clashIn_17 : decode cX6_clashIn 17 = .ok (.istore 4, 2) := by decide +kernel
theorem dX6_clashIn_19 : decode cX6_clashIn 19 = .ok (.iconst 0, 1) := by decide +kernel
theorem dX6_clashIn_20 : decode cX6_clashIn 20 = .ok (.istore 5, 2) := by decide +kernel
theorem dX6_clashIn_22 : decode cX6_clashIn 22 = .ok (.iload 5, 2) := by decide +kernel
theorem dX6_clashIn_24 : decode cX6_clashIn 24 = .ok (.aload_n 0, 1) := by decide +kernel
theorem dX6_clashIn_25 : decode cX6_clashIn 25 = .ok (.getfield 30, 3) := by decide +kernel
theorem dX6_clashIn_28 : decode cX6_clashIn 28 = .ok (.if_icmp .ge 33, 3) := by decide +kernel
theorem dX6_clashIn_31 : decode cX6_clashIn 31 = .ok (.iload 5, 2) := by decide +kernel
theorem dX6_clashIn_33 : decode cX6_clashIn 33 = .ok (.iload_n 2, 1) := by decide +kernel
theorem dX6_clashIn_34 : decode cX6_clashIn 34 = .ok (.if_icmp .eq 21, 3) := by decide +kernel
theorem dX6_clashIn_37 : decode cX6_clashIn 37 = .ok (.iload 5, 2) := by decide +kernel
theorem dX6_clashIn_39 : decode cX6_clashIn 39 = .ok (.iload_n 3, 1) := by decide +kernel
theorem dX6_clashIn_40 : decode cX6_clashIn 40 = .ok (.if_icmp .eq 15, 3) := by decide +kernel
theorem dX6_clashIn_43 : decode cX6_clashIn 43 = .ok (.iload 4, 2) := by decide +kernel
theorem dX6_clashIn_45 : decode cX6_clashIn 45 = .ok (.aload_n 0, 1) := by decide +kernel
theorem dX6_clashIn_46 : decode cX6_clashIn 46 = .ok (.iload_n 1, 1) := by decide +kernel
theorem dX6_clashIn_47 : decode cX6_clashIn 47 = .ok (.iload 5, 2) := by decide +kernel
theorem dX6_clashIn_49 : decode cX6_clashIn 49 = .ok (.invokevirtual 47, 3) := by decide +kernel
theorem dX6_clashIn_52 : decode cX6_clashIn 52 = .ok (.iadd, 1) := by decide +kernel
theorem dX6_clashIn_53 : decode cX6_clashIn 53 = .ok (.istore 4, 2) := by decide +kernel
theorem dX6_clashIn_55 : decode cX6_clashIn 55 = .ok (.iinc 5 1, 3) := by decide +kernel
theorem dX6_clashIn_58 : decode cX6_clashIn 58 = .ok (.goto (-36), 3) := by decide +kernel
theorem dX6_clashIn_61 : decode cX6_clashIn 61 = .ok (.iload 4, 2) := by decide +kernel
theorem dX6_clashIn_63 : decode cX6_clashIn 63 = .ok (.aload_n 0, 1) := by decide +kernel
theorem dX6_clashIn_64 : decode cX6_clashIn 64 = .ok (.getfield 27, 3) := by decide +kernel
theorem dX6_clashIn_67 : decode cX6_clashIn 67 = .ok (.iload_n 1, 1) := by decide +kernel
theorem dX6_clashIn_68 : decode cX6_clashIn 68 = .ok (.iaload, 1) := by decide +kernel
theorem dX6_clashIn_69 : decode cX6_clashIn 69 = .ok (.if_icmp .le 7, 3) := by decide +kernel
theorem dX6_clashIn_72 : decode cX6_clashIn 72 = .ok (.iconst 1, 1) := by decide +kernel
theorem dX6_clashIn_73 : decode cX6_clashIn 73 = .ok (.goto 4, 3) := by decide +kernel
theorem dX6_clashIn_76 : decode cX6_clashIn 76 = .ok (.iconst 0, 1) := by decide +kernel
theorem dX6_clashIn_77 : decode cX6_clashIn 77 = .ok (.ireturn, 1) := by decide +kernel
theorem dX6_choices_0 : decode cX6_choices 0 = .ok (.lconst 1, 1) := by decide +kernel
theorem dX6_choices_1 : decode cX6_choices 1 = .ok (.lstore_n 1, 1) := by decide +kernel
theorem dX6_choices_2 : decode cX6_choices 2 = .ok (.iconst 0, 1) := by decide +kernel
theorem dX6_choices_3 : decode cX6_choices 3 = .ok (.istore_n 3, 1) := by decide +kernel
theorem dX6_choices_4 : decode cX6_choices 4 = .ok (.iload_n 3, 1) := by decide +kernel
theorem dX6_choices_5 : decode cX6_choices 5 = .ok (.aload_n 0, 1) := by decide +kernel
theorem dX6_choices_6 : decode cX6_choices 6 = .ok (.getfield 30, 3) := by decide +kernel
theorem dX6_choices_9 : decode cX6_choices 9 = .ok (.if_icmp .ge 28, 3) := by decide +kernel
theorem dX6_choices_12 : decode cX6_choices 12 = .ok (.lload_n 1, 1) := by decide +kernel
theorem dX6_choices_13 : decode cX6_choices 13 = .ok (.aload_n 0, 1) := by decide +kernel
theorem dX6_choices_14 : decode cX6_choices 14 = .ok (.getfield 15, 3) := by decide +kernel
theorem dX6_choices_17 : decode cX6_choices 17 = .ok (.iload_n 3, 1) := by decide +kernel
theorem dX6_choices_18 : decode cX6_choices 18 = .ok (.iaload, 1) := by decide +kernel
theorem dX6_choices_19 : decode cX6_choices 19 = .ok (.aload_n 0, 1) := by decide +kernel
theorem dX6_choices_20 : decode cX6_choices 20 = .ok (.getfield 9, 3) := by decide +kernel
theorem dX6_choices_23 : decode cX6_choices 23 = .ok (.iload_n 3, 1) := by decide +kernel
theorem dX6_choices_24 : decode cX6_choices 24 = .ok (.iaload, 1) := by decide +kernel
theorem dX6_choices_25 : decode cX6_choices 25 = .ok (.isub, 1) := by decide +kernel
theorem dX6_choices_26 : decode cX6_choices 26 = .ok (.iconst 1, 1) := by decide +kernel
theorem dX6_choices_27 : decode cX6_choices 27 = .ok (.iadd, 1) := by decide +kernel
theorem dX6_choices_28 : decode cX6_choices 28 = .ok (.i2l, 1) := by decide +kernel
theorem dX6_choices_29 : decode cX6_choices 29 = .ok (.lmul, 1) := by decide +kernel
theorem dX6_choices_30 : decode cX6_choices 30 = .ok (.lstore_n 1, 1) := by decide +kernel
theorem dX6_choices_31 : decode cX6_choices 31 = .ok (.iinc 3 1, 3) := by decide +kernel
theorem dX6_choices_34 : decode cX6_choices 34 = .ok (.goto (-30), 3) := by decide +kernel
theorem dX6_choices_37 : decode cX6_choices 37 = .ok (.lload_n 1, 1) := by decide +kernel
theorem dX6_choices_38 : decode cX6_choices 38 = .ok (.lreturn, 1) := by decide +kernel
theorem dX6_scaledStrength_0 : decode cX6_scaledStrength 0 = .ok (.lconst 0, 1) := by decide +kernel
theorem dX6_scaledStrength_1 : decode cX6_scaledStrength 1 = .ok (.lstore_n 2, 1) := by decide +kernel
theorem dX6_scaledStrength_2 : decode cX6_scaledStrength 2 = .ok (.iconst 0, 1) := by decide +kernel
theorem dX6_scaledStrength_3 : decode cX6_scaledStrength 3 = .ok (.istore 4, 2) := by decide +kernel
theorem dX6_scaledStrength_5 : decode cX6_scaledStrength 5 = .ok (.iload 4, 2) := by decide +kernel
theorem dX6_scaledStrength_7 : decode cX6_scaledStrength 7 = .ok (.aload_n 0, 1) := by decide +kernel
theorem dX6_scaledStrength_8 : decode cX6_scaledStrength 8 = .ok (.getfield 30, 3) := by decide +kernel
theorem dX6_scaledStrength_11 : decode cX6_scaledStrength 11 = .ok (.if_icmp .ge 28, 3) := by decide +kernel
theorem dX6_scaledStrength_14 : decode cX6_scaledStrength 14 = .ok (.lload_n 2, 1) := by decide +kernel
theorem dX6_scaledStrength_15 : decode cX6_scaledStrength 15 = .ok (.aload_n 1, 1) := by decide +kernel
theorem dX6_scaledStrength_16 : decode cX6_scaledStrength 16 = .ok (.getfield 51, 3) := by decide +kernel
theorem dX6_scaledStrength_19 : decode cX6_scaledStrength 19 = .ok (.iload 4, 2) := by decide +kernel
theorem dX6_scaledStrength_21 : decode cX6_scaledStrength 21 = .ok (.iaload, 1) := by decide +kernel
theorem dX6_scaledStrength_22 : decode cX6_scaledStrength 22 = .ok (.i2l, 1) := by decide +kernel
theorem dX6_scaledStrength_23 : decode cX6_scaledStrength 23 = .ok (.aload_n 0, 1) := by decide +kernel
theorem dX6_scaledStrength_24 : decode cX6_scaledStrength 24 = .ok (.getfield 18, 3) := by decide +kernel
theorem dX6_scaledStrength_27 : decode cX6_scaledStrength 27 = .ok (.iload 4, 2) := by decide +kernel
theorem dX6_scaledStrength_29 : decode cX6_scaledStrength 29 = .ok (.laload, 1) := by decide +kernel
theorem dX6_scaledStrength_30 : decode cX6_scaledStrength 30 = .ok (.lmul, 1) := by decide +kernel
theorem dX6_scaledStrength_31 : decode cX6_scaledStrength 31 = .ok (.ladd, 1) := by decide +kernel
theorem dX6_scaledStrength_32 : decode cX6_scaledStrength 32 = .ok (.lstore_n 2, 1) := by decide +kernel
theorem dX6_scaledStrength_33 : decode cX6_scaledStrength 33 = .ok (.iinc 4 1, 3) := by decide +kernel
theorem dX6_scaledStrength_36 : decode cX6_scaledStrength 36 = .ok (.goto (-31), 3) := by decide +kernel
theorem dX6_scaledStrength_39 : decode cX6_scaledStrength 39 = .ok (.lload_n 2, 1) := by decide +kernel
theorem dX6_scaledStrength_40 : decode cX6_scaledStrength 40 = .ok (.aload_n 1, 1) := by decide +kernel
theorem dX6_scaledStrength_41 : decode cX6_scaledStrength 41 = .ok (.getfield 55, 3) := by decide +kernel
theorem dX6_scaledStrength_44 : decode cX6_scaledStrength 44 = .ok (.i2l, 1) := by decide +kernel
theorem dX6_scaledStrength_45 : decode cX6_scaledStrength 45 = .ok (.ldc2_w 58, 3) := by decide +kernel
theorem dX6_scaledStrength_48 : decode cX6_scaledStrength 48 = .ok (.lmul, 1) := by decide +kernel
theorem dX6_scaledStrength_49 : decode cX6_scaledStrength 49 = .ok (.lsub, 1) := by decide +kernel
theorem dX6_scaledStrength_50 : decode cX6_scaledStrength 50 = .ok (.lreturn, 1) := by decide +kernel
theorem dX7_init_0 : decode cX7_init 0 = .ok (.aload_n 0, 1) := by decide +kernel
theorem dX7_init_1 : decode cX7_init 1 = .ok (.invokespecial 3, 3) := by decide +kernel
theorem dX7_init_4 : decode cX7_init 4 = .ok (.aload_n 0, 1) := by decide +kernel
theorem dX7_init_5 : decode cX7_init 5 = .ok (.bipush 8, 2) := by decide +kernel
theorem dX7_init_7 : decode cX7_init 7 = .ok (.newarray .int, 2) := by decide +kernel
theorem dX7_init_9 : decode cX7_init 9 = .ok (.putfield 9, 3) := by decide +kernel
theorem dX7_init_12 : decode cX7_init 12 = .ok (.aload_n 0, 1) := by decide +kernel
theorem dX7_init_13 : decode cX7_init 13 = .ok (.aload_n 1, 1) := by decide +kernel
theorem dX7_init_14 : decode cX7_init 14 = .ok (.putfield 15, 3) := by decide +kernel
theorem dX7_init_17 : decode cX7_init 17 = .ok (.aload_n 0, 1) := by decide +kernel
theorem dX7_init_18 : decode cX7_init 18 = .ok (.aload_n 2, 1) := by decide +kernel
theorem dX7_init_19 : decode cX7_init 19 = .ok (.putfield 19, 3) := by decide +kernel
theorem dX7_init_22 : decode cX7_init 22 = .ok (.return_, 1) := by decide +kernel
theorem dX7_seekHalves_0 : decode cX7_seekHalves 0 = .ok (.aload_n 0, 1) := by decide +kernel
theorem dX7_seekHalves_1 : decode cX7_seekHalves 1 = .ok (.getfield 9, 3) := by decide +kernel
theorem dX7_seekHalves_4 : decode cX7_seekHalves 4 = .ok (.iconst 0, 1) := by decide +kernel
theorem dX7_seekHalves_5 : decode cX7_seekHalves 5 = .ok (.invokestatic 23, 3) := by decide +kernel
theorem dX7_seekHalves_8 : decode cX7_seekHalves 8 = .ok (.aload_n 0, 1) := by decide +kernel
theorem dX7_seekHalves_9 : decode cX7_seekHalves 9 = .ok (.iconst 0, 1) := by decide +kernel
theorem dX7_seekHalves_10 : decode cX7_seekHalves 10 = .ok (.putfield 29, 3) := by decide +kernel
theorem dX7_seekHalves_13 : decode cX7_seekHalves 13 = .ok (.iconst 1, 1) := by decide +kernel
theorem dX7_seekHalves_14 : decode cX7_seekHalves 14 = .ok (.istore_n 1, 1) := by decide +kernel
theorem dX7_seekHalves_15 : decode cX7_seekHalves 15 = .ok (.iload_n 1, 1) := by decide +kernel
theorem dX7_seekHalves_16 : decode cX7_seekHalves 16 = .ok (.iconst 1, 1) := by decide +kernel
theorem dX7_seekHalves_17 : decode cX7_seekHalves 17 = .ok (.aload_n 0, 1) := by decide +kernel
theorem dX7_seekHalves_18 : decode cX7_seekHalves 18 = .ok (.getfield 15, 3) := by decide +kernel
theorem dX7_seekHalves_21 : decode cX7_seekHalves 21 = .ok (.getfield 33, 3) := by decide +kernel
theorem dX7_seekHalves_24 : decode cX7_seekHalves 24 = .ok (.ishl, 1) := by decide +kernel
theorem dX7_seekHalves_25 : decode cX7_seekHalves 25 = .ok (.if_icmp .ge 23, 3) := by decide +kernel
theorem dX7_seekHalves_28 : decode cX7_seekHalves 28 = .ok (.aload_n 0, 1) := by decide +kernel
theorem dX7_seekHalves_29 : decode cX7_seekHalves 29 = .ok (.iload_n 1, 1) := by decide +kernel
theorem dX7_seekHalves_30 : decode cX7_seekHalves 30 = .ok (.invokevirtual 38, 3) := by decide +kernel
theorem dX7_seekHalves_33 : decode cX7_seekHalves 33 = .ok (.aload_n 0, 1) := by decide +kernel
theorem dX7_seekHalves_34 : decode cX7_seekHalves 34 = .ok (.iload_n 1, 1) := by decide +kernel
theorem dX7_seekHalves_35 : decode cX7_seekHalves 35 = .ok (.invokevirtual 42, 3) := by decide +kernel
theorem dX7_seekHalves_38 : decode cX7_seekHalves 38 = .ok (.ifCond .ne 4, 3) := by decide +kernel
theorem dX7_seekHalves_41 : decode cX7_seekHalves 41 = .ok (.return_, 1) := by decide +kernel
theorem dX7_seekHalves_42 : decode cX7_seekHalves 42 = .ok (.iinc 1 1, 3) := by decide +kernel
theorem dX7_seekHalves_45 : decode cX7_seekHalves 45 = .ok (.goto (-30), 3) := by decide +kernel
theorem dX7_seekHalves_48 : decode cX7_seekHalves 48 = .ok (.return_, 1) := by decide +kernel
theorem dX7_seekRounded_0 : decode cX7_seekRounded 0 = .ok (.iconst 0, 1) := by decide +kernel
theorem dX7_seekRounded_1 : decode cX7_seekRounded 1 = .ok (.istore_n 1, 1) := by decide +kernel
theorem dX7_seekRounded_2 : decode cX7_seekRounded 2 = .ok (.iload_n 1, 1) := by decide +kernel
theorem dX7_seekRounded_3 : decode cX7_seekRounded 3 = .ok (.aload_n 0, 1) := by decide +kernel
theorem dX7_seekRounded_4 : decode cX7_seekRounded 4 = .ok (.getfield 15, 3) := by decide +kernel
theorem dX7_seekRounded_7 : decode cX7_seekRounded 7 = .ok (.getfield 33, 3) := by decide +kernel
theorem dX7_seekRounded_10 : decode cX7_seekRounded 10 = .ok (.if_icmp .ge 33, 3) := by decide +kernel
theorem dX7_seekRounded_13 : decode cX7_seekRounded 13 = .ok (.iconst 2, 1) := by decide +kernel
theorem dX7_seekRounded_14 : decode cX7_seekRounded 14 = .ok (.istore_n 2, 1) := by decide +kernel
theorem dX7_seekRounded_15 : decode cX7_seekRounded 15 = .ok (.iload_n 2, 1) := by decide +kernel
theorem dX7_seekRounded_16 : decode cX7_seekRounded 16 = .ok (.bipush 9, 2) := by decide +kernel
theorem dX7_seekRounded_18 : decode cX7_seekRounded 18 = .ok (.if_icmp .gt 19, 3) := by decide +kernel
theorem dX7_seekRounded_21 : decode cX7_seekRounded 21 = .ok (.aload_n 0, 1) := by decide +kernel
theorem dX7_seekRounded_22 : decode cX7_seekRounded 22 = .ok (.iload_n 1, 1) := by decide +kernel
theorem dX7_seekRounded_23 : decode cX7_seekRounded 23 = .ok (.iload_n 2, 1) := by decide +kernel
theorem dX7_seekRounded_24 : decode cX7_seekRounded 24 = .ok (.invokevirtual 46, 3) := by decide +kernel
theorem dX7_seekRounded_27 : decode cX7_seekRounded 27 = .ok (.ifCond .ne 4, 3) := by decide +kernel
theorem dX7_seekRounded_30 : decode cX7_seekRounded 30 = .ok (.return_, 1) := by decide +kernel
theorem dX7_seekRounded_31 : decode cX7_seekRounded 31 = .ok (.iinc 2 1, 3) := by decide +kernel
theorem dX7_seekRounded_34 : decode cX7_seekRounded 34 = .ok (.goto (-19), 3) := by decide +kernel
theorem dX7_seekRounded_37 : decode cX7_seekRounded 37 = .ok (.iinc 1 1, 3) := by decide +kernel
theorem dX7_seekRounded_40 : decode cX7_seekRounded 40 = .ok (.goto (-38), 3) := by decide +kernel
theorem dX7_seekRounded_43 : decode cX7_seekRounded 43 = .ok (.return_, 1) := by decide +kernel
theorem dX7_moveSumTo_0 : decode cX7_moveSumTo 0 = .ok (.iload_n 1, 1) := by decide +kernel
theorem dX7_moveSumTo_1 : decode cX7_moveSumTo 1 = .ok (.iload_n 1, 1) := by decide +kernel
theorem dX7_moveSumTo_2 : decode cX7_moveSumTo 2 = .ok (.iconst 1, 1) := by decide +kernel
theorem dX7_moveSumTo_3 : decode cX7_moveSumTo 3 = .ok (.isub, 1) := by decide +kernel
theorem dX7_moveSumTo_4 : decode cX7_moveSumTo 4 = .ok (.ixor, 1) := by decide +kernel
theorem dX7_moveSumTo_5 : decode cX7_moveSumTo 5 = .ok (.istore_n 2, 1) := by decide +kernel
theorem dX7_moveSumTo_6 : decode cX7_moveSumTo 6 = .ok (.iconst 0, 1) := by decide +kernel
theorem dX7_moveSumTo_7 : decode cX7_moveSumTo 7 = .ok (.istore_n 3, 1) := by decide +kernel
theorem dX7_moveSumTo_8 : decode cX7_moveSumTo 8 = .ok (.iload_n 3, 1) := by decide +kernel
theorem dX7_moveSumTo_9 : decode cX7_moveSumTo 9 = .ok (.aload_n 0, 1) := by decide +kernel
theorem dX7_moveSumTo_10 : decode cX7_moveSumTo 10 = .ok (.getfield 15, 3) := by decide +kernel
theorem dX7_moveSumTo_13 : decode cX7_moveSumTo 13 = .ok (.getfield 33, 3) := by decide +kernel
theorem dX7_moveSumTo_16 : decode cX7_moveSumTo 16 = .ok (.if_icmp .ge 99, 3) := by decide +kernel
theorem dX7_moveSumTo_19 : decode cX7_moveSumTo 19 = .ok (.iload_n 2, 1) := by decide +kernel
theorem dX7_moveSumTo_20 : decode cX7_moveSumTo 20 = .ok (.iload_n 3, 1) := by decide +kernel
theorem dX7_moveSumTo_21 : decode cX7_moveSumTo 21 = .ok (.invokestatic 50, 3) := by decide +kernel
theorem dX7_moveSumTo_24 : decode cX7_moveSumTo 24 = .ok (.ifCond .eq 91, 3) := by decide +kernel
theorem dX7_moveSumTo_27 : decode cX7_moveSumTo 27 = .ok (.iload_n 1, 1) := by decide +kernel
theorem dX7_moveSumTo_28 : decode cX7_moveSumTo 28 = .ok (.iload_n 3, 1) := by decide +kernel
theorem dX7_moveSumTo_29 : decode cX7_moveSumTo 29 = .ok (.invokestatic 50, 3) := by decide +kernel
theorem dX7_moveSumTo_32 : decode cX7_moveSumTo 32 = .ok (.ifCond .eq 7, 3) := by decide +kernel
theorem dX7_moveSumTo_35 : decode cX7_moveSumTo 35 = .ok (.iconst 1, 1) := by decide +kernel
theorem dX7_moveSumTo_36 : decode cX7_moveSumTo 36 = .ok (.goto 4, 3) := by decide +kernel
theorem dX7_moveSumTo_39 : decode cX7_moveSumTo 39 = .ok (.iconst (-1), 1) := by decide +kernel
theorem dX7_moveSumTo_40 : decode cX7_moveSumTo 40 = .ok (.istore 4, 2) := by decide +kernel
theorem dX7_moveSumTo_42 : decode cX7_moveSumTo 42 = .ok (.iconst 0, 1) := by decide +kernel
theorem dX7_moveSumTo_43 : decode cX7_moveSumTo 43 = .ok (.istore 5, 2) := by decide +kernel
theorem dX7_moveSumTo_45 : decode cX7_moveSumTo 45 = .ok (.iload 5, 2) := by decide +kernel
theorem dX7_moveSumTo_47 : decode cX7_moveSumTo 47 = .ok (.aload_n 0, 1) := by decide +kernel
theorem dX7_moveSumTo_48 : decode cX7_moveSumTo 48 = .ok (.getfield 15, 3) := by decide +kernel
theorem dX7_moveSumTo_51 : decode cX7_moveSumTo 51 = .ok (.getfield 53, 3) := by decide +kernel
theorem dX7_moveSumTo_54 : decode cX7_moveSumTo 54 = .ok (.if_icmp .ge 34, 3) := by decide +kernel
theorem dX7_moveSumTo_57 : decode cX7_moveSumTo 57 = .ok (.aload_n 0, 1) := by decide +kernel
theorem dX7_moveSumTo_58 : decode cX7_moveSumTo 58 = .ok (.getfield 9, 3) := by decide +kernel
theorem dX7_moveSumTo_61 : decode cX7_moveSumTo 61 = .ok (.iload 5, 2) := by decide +kernel
theorem dX7_moveSumTo_63 : decode cX7_moveSumTo 63 = .ok (.dup2, 1) := by decide +kernel
theorem dX7_moveSumTo_64 : decode cX7_moveSumTo 64 = .ok (.iaload, 1) := by decide +kernel
theorem dX7_moveSumTo_65 : decode cX7_moveSumTo 65 = .ok (.iload 4, 2) := by decide +kernel
theorem dX7_moveSumTo_67 : decode cX7_moveSumTo 67 = .ok (.aload_n 0, 1) := by decide +kernel
theorem dX7_moveSumTo_68 : decode cX7_moveSumTo 68 = .ok (.getfield 15, 3) := by decide +kernel
theorem dX7_moveSumTo_71 : decode cX7_moveSumTo 71 = .ok (.getfield 56, 3) := by decide +kernel
theorem dX7_moveSumTo_74 : decode cX7_moveSumTo 74 = .ok (.iload_n 3, 1) := by decide +kernel
theorem dX7_moveSumTo_75 : decode cX7_moveSumTo 75 = .ok (.aaload, 1) := by decide +kernel
theorem dX7_moveSumTo_76 : decode cX7_moveSumTo 76 = .ok (.iload 5, 2) := by decide +kernel
theorem dX7_moveSumTo_78 : decode cX7_moveSumTo 78 = .ok (.iaload, 1) := by decide +kernel
theorem dX7_moveSumTo_79 : decode cX7_moveSumTo 79 = .ok (.imul, 1) := by decide +kernel
theorem dX7_moveSumTo_80 : decode cX7_moveSumTo 80 = .ok (.iadd, 1) := by decide +kernel
theorem dX7_moveSumTo_81 : decode cX7_moveSumTo 81 = .ok (.iastore, 1) := by decide +kernel
theorem dX7_moveSumTo_82 : decode cX7_moveSumTo 82 = .ok (.iinc 5 1, 3) := by decide +kernel
theorem dX7_moveSumTo_85 : decode cX7_moveSumTo 85 = .ok (.goto (-40), 3) := by decide +kernel
theorem dX7_moveSumTo_88 : decode cX7_moveSumTo 88 = .ok (.aload_n 0, 1) := by decide +kernel
theorem dX7_moveSumTo_89 : decode cX7_moveSumTo 89 = .ok (.dup, 1) := by decide +kernel
theorem dX7_moveSumTo_90 : decode cX7_moveSumTo 90 = .ok (.getfield 29, 3) := by decide +kernel
theorem dX7_moveSumTo_93 : decode cX7_moveSumTo 93 = .ok (.iload 4, 2) := by decide +kernel
theorem dX7_moveSumTo_95 : decode cX7_moveSumTo 95 = .ok (.aload_n 0, 1) := by decide +kernel
theorem dX7_moveSumTo_96 : decode cX7_moveSumTo 96 = .ok (.getfield 15, 3) := by decide +kernel
theorem dX7_moveSumTo_99 : decode cX7_moveSumTo 99 = .ok (.getfield 60, 3) := by decide +kernel
theorem dX7_moveSumTo_102 : decode cX7_moveSumTo 102 = .ok (.iload_n 3, 1) := by decide +kernel
theorem dX7_moveSumTo_103 : decode cX7_moveSumTo 103 = .ok (.iaload, 1) := by decide +kernel
theorem dX7_moveSumTo_104 : decode cX7_moveSumTo 104 = .ok (.imul, 1) := by decide +kernel
theorem dX7_moveSumTo_105 : decode cX7_moveSumTo 105 = .ok (.iadd, 1) := by decide +kernel
theorem dX7_moveSumTo_106 : decode cX7_moveSumTo 106 = .ok (.putfield 29, 3) := by decide +kernel
theorem dX7_moveSumTo_109 : decode cX7_moveSumTo 109 = .ok (.iinc 3 1, 3) := by decide +kernel
theorem dX7_moveSumTo_112 : decode cX7_moveSumTo 112 = .ok (.goto (-104), 3) := by decide +kernel
theorem dX7_moveSumTo_115 : decode cX7_moveSumTo 115 = .ok (.return_, 1) := by decide +kernel
theorem dX7_tryHalves_0 : decode cX7_tryHalves 0 = .ok (.aload_n 0, 1) := by decide +kernel
theorem dX7_tryHalves_1 : decode cX7_tryHalves 1 = .ok (.getfield 19, 3) := by decide +kernel
theorem dX7_tryHalves_4 : decode cX7_tryHalves 4 = .ok (.iconst 0, 1) := by decide +kernel
theorem dX7_tryHalves_5 : decode cX7_tryHalves 5 = .ok (.invokevirtual 63, 3) := by decide +kernel
theorem dX7_tryHalves_8 : decode cX7_tryHalves 8 = .ok (.astore_n 2, 1) := by decide +kernel
theorem dX7_tryHalves_9 : decode cX7_tryHalves 9 = .ok (.iconst 0, 1) := by decide +kernel
theorem dX7_tryHalves_10 : decode cX7_tryHalves 10 = .ok (.istore_n 3, 1) := by decide +kernel
theorem dX7_tryHalves_11 : decode cX7_tryHalves 11 = .ok (.iload_n 3, 1) := by decide +kernel
theorem dX7_tryHalves_12 : decode cX7_tryHalves 12 = .ok (.aload_n 0, 1) := by decide +kernel
theorem dX7_tryHalves_13 : decode cX7_tryHalves 13 = .ok (.getfield 15, 3) := by decide +kernel
theorem dX7_tryHalves_16 : decode cX7_tryHalves 16 = .ok (.getfield 33, 3) := by decide +kernel
theorem dX7_tryHalves_19 : decode cX7_tryHalves 19 = .ok (.if_icmp .ge 28, 3) := by decide +kernel
theorem dX7_tryHalves_22 : decode cX7_tryHalves 22 = .ok (.aload_n 2, 1) := by decide +kernel
theorem dX7_tryHalves_23 : decode cX7_tryHalves 23 = .ok (.getfield 69, 3) := by decide +kernel
theorem dX7_tryHalves_26 : decode cX7_tryHalves 26 = .ok (.iload_n 3, 1) := by decide +kernel
theorem dX7_tryHalves_27 : decode cX7_tryHalves 27 = .ok (.iload_n 1, 1) := by decide +kernel
theorem dX7_tryHalves_28 : decode cX7_tryHalves 28 = .ok (.iload_n 3, 1) := by decide +kernel
theorem dX7_tryHalves_29 : decode cX7_tryHalves 29 = .ok (.invokestatic 50, 3) := by decide +kernel
theorem dX7_tryHalves_32 : decode cX7_tryHalves 32 = .ok (.ifCond .eq 7, 3) := by decide +kernel
theorem dX7_tryHalves_35 : decode cX7_tryHalves 35 = .ok (.iconst 1, 1) := by decide +kernel
theorem dX7_tryHalves_36 : decode cX7_tryHalves 36 = .ok (.goto 4, 3) := by decide +kernel
theorem dX7_tryHalves_39 : decode cX7_tryHalves 39 = .ok (.iconst 0, 1) := by decide +kernel
theorem dX7_tryHalves_40 : decode cX7_tryHalves 40 = .ok (.iastore, 1) := by decide +kernel
theorem dX7_tryHalves_41 : decode cX7_tryHalves 41 = .ok (.iinc 3 1, 3) := by decide +kernel
theorem dX7_tryHalves_44 : decode cX7_tryHalves 44 = .ok (.goto (-33), 3) := by decide +kernel
theorem dX7_tryHalves_47 : decode cX7_tryHalves 47 = .ok (.aload_n 2, 1) := by decide +kernel
theorem dX7_tryHalves_48 : decode cX7_tryHalves 48 = .ok (.iconst 2, 1) := by decide +kernel
theorem dX7_tryHalves_49 : decode cX7_tryHalves 49 = .ok (.putfield 74, 3) := by decide +kernel
theorem dX7_tryHalves_52 : decode cX7_tryHalves 52 = .ok (.aload_n 2, 1) := by decide +kernel
theorem dX7_tryHalves_53 : decode cX7_tryHalves 53 = .ok (.aload_n 0, 1) := by decide +kernel
theorem dX7_tryHalves_54 : decode cX7_tryHalves 54 = .ok (.getfield 29, 3) := by decide +kernel
theorem dX7_tryHalves_57 : decode cX7_tryHalves 57 = .ok (.putfield 77, 3) := by decide +kernel
theorem dX7_tryHalves_60 : decode cX7_tryHalves 60 = .ok (.iconst 0, 1) := by decide +kernel
theorem dX7_tryHalves_61 : decode cX7_tryHalves 61 = .ok (.istore_n 3, 1) := by decide +kernel
theorem dX7_tryHalves_62 : decode cX7_tryHalves 62 = .ok (.iload_n 3, 1) := by decide +kernel
theorem dX7_tryHalves_63 : decode cX7_tryHalves 63 = .ok (.aload_n 0, 1) := by decide +kernel
theorem dX7_tryHalves_64 : decode cX7_tryHalves 64 = .ok (.getfield 15, 3) := by decide +kernel
theorem dX7_tryHalves_67 : decode cX7_tryHalves 67 = .ok (.getfield 53, 3) := by decide +kernel
theorem dX7_tryHalves_70 : decode cX7_tryHalves 70 = .ok (.if_icmp .ge 62, 3) := by decide +kernel
theorem dX7_tryHalves_73 : decode cX7_tryHalves 73 = .ok (.aload_n 2, 1) := by decide +kernel
theorem dX7_tryHalves_74 : decode cX7_tryHalves 74 = .ok (.getfield 80, 3) := by decide +kernel
theorem dX7_tryHalves_77 : decode cX7_tryHalves 77 = .ok (.iload_n 3, 1) := by decide +kernel
theorem dX7_tryHalves_78 : decode cX7_tryHalves 78 = .ok (.aload_n 0, 1) := by decide +kernel
theorem dX7_tryHalves_79 : decode cX7_tryHalves 79 = .ok (.getfield 9, 3) := by decide +kernel
theorem dX7_tryHalves_82 : decode cX7_tryHalves 82 = .ok (.iload_n 3, 1) := by decide +kernel
theorem dX7_tryHalves_83 : decode cX7_tryHalves 83 = .ok (.iaload, 1) := by decide +kernel
theorem dX7_tryHalves_84 : decode cX7_tryHalves 84 = .ok (.iastore, 1) := by decide +kernel
theorem dX7_tryHalves_85 : decode cX7_tryHalves 85 = .ok (.aload_n 0, 1) := by decide +kernel
theorem dX7_tryHalves_86 : decode cX7_tryHalves 86 = .ok (.getfield 9, 3) := by decide +kernel
theorem dX7_tryHalves_89 : decode cX7_tryHalves 89 = .ok (.iload_n 3, 1) := by decide +kernel
theorem dX7_tryHalves_90 : decode cX7_tryHalves 90 = .ok (.iaload, 1) := by decide +kernel
theorem dX7_tryHalves_91 : decode cX7_tryHalves 91 = .ok (.iconst 2, 1) := by decide +kernel
theorem dX7_tryHalves_92 : decode cX7_tryHalves 92 = .ok (.invokestatic 82, 3) := by decide +kernel
theorem dX7_tryHalves_95 : decode cX7_tryHalves 95 = .ok (.ifCond .ne 6, 3) := by decide +kernel
theorem dX7_tryHalves_98 : decode cX7_tryHalves 98 = .ok (.goto 28, 3) := by decide +kernel
theorem dX7_tryHalves_101 : decode cX7_tryHalves 101 = .ok (.aload_n 0, 1) := by decide +kernel
theorem dX7_tryHalves_102 : decode cX7_tryHalves 102 = .ok (.iload_n 3, 1) := by decide +kernel
theorem dX7_tryHalves_103 : decode cX7_tryHalves 103 = .ok (.invokevirtual 88, 3) := by decide +kernel
theorem dX7_tryHalves_106 : decode cX7_tryHalves 106 = .ok (.ifCond .eq 13, 3) := by decide +kernel
theorem dX7_tryHalves_109 : decode cX7_tryHalves 109 = .ok (.aload_n 0, 1) := by decide +kernel
theorem dX7_tryHalves_110 : decode cX7_tryHalves 110 = .ok (.aload_n 2, 1) := by decide +kernel
theorem dX7_tryHalves_111 : decode cX7_tryHalves 111 = .ok (.iload_n 3, 1) := by decide +kernel
theorem dX7_tryHalves_112 : decode cX7_tryHalves 112 = .ok (.iconst 1, 1) := by decide +kernel
theorem dX7_tryHalves_113 : decode cX7_tryHalves 113 = .ok (.invokevirtual 91, 3) := by decide +kernel
theorem dX7_tryHalves_116 : decode cX7_tryHalves 116 = .ok (.goto 10, 3) := by decide +kernel
theorem dX7_tryHalves_119 : decode cX7_tryHalves 119 = .ok (.aload_n 0, 1) := by decide +kernel
theorem dX7_tryHalves_120 : decode cX7_tryHalves 120 = .ok (.aload_n 2, 1) := by decide +kernel
theorem dX7_tryHalves_121 : decode cX7_tryHalves 121 = .ok (.iload_n 3, 1) := by decide +kernel
theorem dX7_tryHalves_122 : decode cX7_tryHalves 122 = .ok (.iconst 1, 1) := by decide +kernel
theorem dX7_tryHalves_123 : decode cX7_tryHalves 123 = .ok (.invokevirtual 95, 3) := by decide +kernel
theorem dX7_tryHalves_126 : decode cX7_tryHalves 126 = .ok (.iinc 3 1, 3) := by decide +kernel
theorem dX7_tryHalves_129 : decode cX7_tryHalves 129 = .ok (.goto (-67), 3) := by decide +kernel
theorem dX7_tryHalves_132 : decode cX7_tryHalves 132 = .ok (.aload_n 0, 1) := by decide +kernel
theorem dX7_tryHalves_133 : decode cX7_tryHalves 133 = .ok (.aload_n 2, 1) := by decide +kernel
theorem dX7_tryHalves_134 : decode cX7_tryHalves 134 = .ok (.iconst 2, 1) := by decide +kernel
theorem dX7_tryHalves_135 : decode cX7_tryHalves 135 = .ok (.invokevirtual 98, 3) := by decide +kernel
theorem dX7_tryHalves_138 : decode cX7_tryHalves 138 = .ok (.ireturn, 1) := by decide +kernel
theorem dX7_tryRounded_0 : decode cX7_tryRounded 0 = .ok (.aload_n 0, 1) := by decide +kernel
theorem dX7_tryRounded_1 : decode cX7_tryRounded 1 = .ok (.getfield 19, 3) := by decide +kernel
theorem dX7_tryRounded_4 : decode cX7_tryRounded 4 = .ok (.iconst 1, 1) := by decide +kernel
theorem dX7_tryRounded_5 : decode cX7_tryRounded 5 = .ok (.invokevirtual 63, 3) := by decide +kernel
theorem dX7_tryRounded_8 : decode cX7_tryRounded 8 = .ok (.astore_n 3, 1) := by decide +kernel
theorem dX7_tryRounded_9 : decode cX7_tryRounded 9 = .ok (.aload_n 3, 1) := by decide +kernel
theorem dX7_tryRounded_10 : decode cX7_tryRounded 10 = .ok (.getfield 69, 3) := by decide +kernel
theorem dX7_tryRounded_13 : decode cX7_tryRounded 13 = .ok (.iload_n 1, 1) := by decide +kernel
theorem dX7_tryRounded_14 : decode cX7_tryRounded 14 = .ok (.iconst 1, 1) := by decide +kernel
theorem dX7_tryRounded_15 : decode cX7_tryRounded 15 = .ok (.iastore, 1) := by decide +kernel
theorem dX7_tryRounded_16 : decode cX7_tryRounded 16 = .ok (.aload_n 3, 1) := by decide +kernel
theorem dX7_tryRounded_17 : decode cX7_tryRounded 17 = .ok (.iload_n 2, 1) := by decide +kernel
theorem dX7_tryRounded_18 : decode cX7_tryRounded 18 = .ok (.putfield 74, 3) := by decide +kernel
theorem dX7_tryRounded_21 : decode cX7_tryRounded 21 = .ok (.aload_n 3, 1) := by decide +kernel
theorem dX7_tryRounded_22 : decode cX7_tryRounded 22 = .ok (.aload_n 0, 1) := by decide +kernel
theorem dX7_tryRounded_23 : decode cX7_tryRounded 23 = .ok (.getfield 15, 3) := by decide +kernel
theorem dX7_tryRounded_26 : decode cX7_tryRounded 26 = .ok (.getfield 60, 3) := by decide +kernel
theorem dX7_tryRounded_29 : decode cX7_tryRounded 29 = .ok (.iload_n 1, 1) := by decide +kernel
theorem dX7_tryRounded_30 : decode cX7_tryRounded 30 = .ok (.iaload, 1) := by decide +kernel
theorem dX7_tryRounded_31 : decode cX7_tryRounded 31 = .ok (.putfield 77, 3) := by decide +kernel
theorem dX7_tryRounded_34 : decode cX7_tryRounded 34 = .ok (.iconst 0, 1) := by decide +kernel
theorem dX7_tryRounded_35 : decode cX7_tryRounded 35 = .ok (.istore 4, 2) := by decide +kernel
theorem dX7_tryRounded_37 : decode cX7_tryRounded 37 = .ok (.iload 4, 2) := by decide +kernel
theorem dX7_tryRounded_39 : decode cX7_tryRounded 39 = .ok (.aload_n 0, 1) := by decide +kernel
theorem dX7_tryRounded_40 : decode cX7_tryRounded 40 = .ok (.getfield 15, 3) := by decide +kernel
theorem dX7_tryRounded_43 : decode cX7_tryRounded 43 = .ok (.getfield 53, 3) := by decide +kernel
theorem dX7_tryRounded_46 : decode cX7_tryRounded 46 = .ok (.if_icmp .ge 84, 3) := by decide +kernel
theorem dX7_tryRounded_49 : decode cX7_tryRounded 49 = .ok (.aload_n 3, 1) := by decide +kernel
theorem dX7_tryRounded_50 : decode cX7_tryRounded 50 = .ok (.getfield 80, 3) := by decide +kernel
theorem dX7_tryRounded_53 : decode cX7_tryRounded 53 = .ok (.iload 4, 2) := by decide +kernel
theorem dX7_tryRounded_55 : decode cX7_tryRounded 55 = .ok (.aload_n 0, 1) := by decide +kernel
theorem dX7_tryRounded_56 : decode cX7_tryRounded 56 = .ok (.getfield 15, 3) := by decide +kernel
theorem dX7_tryRounded_59 : decode cX7_tryRounded 59 = .ok (.getfield 56, 3) := by decide +kernel
theorem dX7_tryRounded_62 : decode cX7_tryRounded 62 = .ok (.iload_n 1, 1) := by decide +kernel
theorem dX7_tryRounded_63 : decode cX7_tryRounded 63 = .ok (.aaload, 1) := by decide +kernel
theorem dX7_tryRounded_64 : decode cX7_tryRounded 64 = .ok (.iload 4, 2) := by decide +kernel
theorem dX7_tryRounded_66 : decode cX7_tryRounded 66 = .ok (.iaload, 1) := by decide +kernel
theorem dX7_tryRounded_67 : decode cX7_tryRounded 67 = .ok (.iastore, 1) := by decide +kernel
theorem dX7_tryRounded_68 : decode cX7_tryRounded 68 = .ok (.aload_n 3, 1) := by decide +kernel
theorem dX7_tryRounded_69 : decode cX7_tryRounded 69 = .ok (.getfield 80, 3) := by decide +kernel
theorem dX7_tryRounded_72 : decode cX7_tryRounded 72 = .ok (.iload 4, 2) := by decide +kernel
theorem dX7_tryRounded_74 : decode cX7_tryRounded 74 = .ok (.iaload, 1) := by decide +kernel
theorem dX7_tryRounded_75 : decode cX7_tryRounded 75 = .ok (.iload_n 2, 1) := by decide +kernel
theorem dX7_tryRounded_76 : decode cX7_tryRounded 76 = .ok (.invokestatic 82, 3) := by decide +kernel
theorem dX7_tryRounded_79 : decode cX7_tryRounded 79 = .ok (.istore 5, 2) := by decide +kernel
theorem dX7_tryRounded_81 : decode cX7_tryRounded 81 = .ok (.iload 5, 2) := by decide +kernel
theorem dX7_tryRounded_83 : decode cX7_tryRounded 83 = .ok (.ifCond .ne 6, 3) := by decide +kernel
theorem dX7_tryRounded_86 : decode cX7_tryRounded 86 = .ok (.goto 38, 3) := by decide +kernel
theorem dX7_tryRounded_89 : decode cX7_tryRounded 89 = .ok (.aload_n 0, 1) := by decide +kernel
theorem dX7_tryRounded_90 : decode cX7_tryRounded 90 = .ok (.iload 4, 2) := by decide +kernel
theorem dX7_tryRounded_92 : decode cX7_tryRounded 92 = .ok (.iload 5, 2) := by decide +kernel
theorem dX7_tryRounded_94 : decode cX7_tryRounded 94 = .ok (.iload_n 2, 1) := by decide +kernel
theorem dX7_tryRounded_95 : decode cX7_tryRounded 95 = .ok (.invokevirtual 102, 3) := by decide +kernel
theorem dX7_tryRounded_98 : decode cX7_tryRounded 98 = .ok (.ifCond .eq 15, 3) := by decide +kernel
theorem dX7_tryRounded_101 : decode cX7_tryRounded 101 = .ok (.aload_n 0, 1) := by decide +kernel
theorem dX7_tryRounded_102 : decode cX7_tryRounded 102 = .ok (.aload_n 3, 1) := by decide +kernel
theorem dX7_tryRounded_103 : decode cX7_tryRounded 103 = .ok (.iload 4, 2) := by decide +kernel
theorem dX7_tryRounded_105 : decode cX7_tryRounded 105 = .ok (.iload 5, 2) := by decide +kernel
theorem dX7_tryRounded_107 : decode cX7_tryRounded 107 = .ok (.invokevirtual 95, 3) := by decide +kernel
theorem dX7_tryRounded_110 : decode cX7_tryRounded 110 = .ok (.goto 14, 3) := by decide +kernel
theorem dX7_tryRounded_113 : decode cX7_tryRounded 113 = .ok (.aload_n 0, 1) := by decide +kernel
theorem dX7_tryRounded_114 : decode cX7_tryRounded 114 = .ok (.aload_n 3, 1) := by decide +kernel
theorem dX7_tryRounded_115 : decode cX7_tryRounded 115 = .ok (.iload 4, 2) := by decide +kernel
theorem dX7_tryRounded_117 : decode cX7_tryRounded 117 = .ok (.iload_n 2, 1) := by decide +kernel
theorem dX7_tryRounded_118 : decode cX7_tryRounded 118 = .ok (.iload 5, 2) := by decide +kernel
theorem dX7_tryRounded_120 : decode cX7_tryRounded 120 = .ok (.isub, 1) := by decide +kernel
theorem dX7_tryRounded_121 : decode cX7_tryRounded 121 = .ok (.invokevirtual 91, 3) := by decide +kernel
theorem dX7_tryRounded_124 : decode cX7_tryRounded 124 = .ok (.iinc 4 1, 3) := by decide +kernel
theorem dX7_tryRounded_127 : decode cX7_tryRounded 127 = .ok (.goto (-90), 3) := by decide +kernel
theorem dX7_tryRounded_130 : decode cX7_tryRounded 130 = .ok (.aload_n 0, 1) := by decide +kernel
theorem dX7_tryRounded_131 : decode cX7_tryRounded 131 = .ok (.aload_n 3, 1) := by decide +kernel
theorem dX7_tryRounded_132 : decode cX7_tryRounded 132 = .ok (.iload_n 2, 1) := by decide +kernel
theorem dX7_tryRounded_133 : decode cX7_tryRounded 133 = .ok (.invokevirtual 98, 3) := by decide +kernel
theorem dX7_tryRounded_136 : decode cX7_tryRounded 136 = .ok (.ireturn, 1) := by decide +kernel
theorem dX7_isHighNearer_0 : decode cX7_isHighNearer 0 = .ok (.ldc2_w 106, 3) := by decide +kernel
theorem dX7_isHighNearer_3 : decode cX7_isHighNearer 3 = .ok (.aload_n 0, 1) := by decide +kernel
theorem dX7_isHighNearer_4 : decode cX7_isHighNearer 4 = .ok (.getfield 15, 3) := by decide +kernel
theorem dX7_isHighNearer_7 : decode cX7_isHighNearer 7 = .ok (.getfield 108, 3) := by decide +kernel
theorem dX7_isHighNearer_10 : decode cX7_isHighNearer 10 = .ok (.iload_n 1, 1) := by decide +kernel
theorem dX7_isHighNearer_11 : decode cX7_isHighNearer 11 = .ok (.laload, 1) := by decide +kernel
theorem dX7_isHighNearer_12 : decode cX7_isHighNearer 12 = .ok (.lmul, 1) := by decide +kernel
theorem dX7_isHighNearer_13 : decode cX7_isHighNearer 13 = .ok (.ldc2_w 112, 3) := by decide +kernel
theorem dX7_isHighNearer_16 : decode cX7_isHighNearer 16 = .ok (.aload_n 0, 1) := by decide +kernel
theorem dX7_isHighNearer_17 : decode cX7_isHighNearer 17 = .ok (.getfield 15, 3) := by decide +kernel
theorem dX7_isHighNearer_20 : decode cX7_isHighNearer 20 = .ok (.getfield 114, 3) := by decide +kernel
theorem dX7_isHighNearer_23 : decode cX7_isHighNearer 23 = .ok (.iload_n 1, 1) := by decide +kernel
theorem dX7_isHighNearer_24 : decode cX7_isHighNearer 24 = .ok (.iaload, 1) := by decide +kernel
theorem dX7_isHighNearer_25 : decode cX7_isHighNearer 25 = .ok (.aload_n 0, 1) := by decide +kernel
theorem dX7_isHighNearer_26 : decode cX7_isHighNearer 26 = .ok (.getfield 15, 3) := by decide +kernel
theorem dX7_isHighNearer_29 : decode cX7_isHighNearer 29 = .ok (.getfield 117, 3) := by decide +kernel
theorem dX7_isHighNearer_32 : decode cX7_isHighNearer 32 = .ok (.iload_n 1, 1) := by decide +kernel
theorem dX7_isHighNearer_33 : decode cX7_isHighNearer 33 = .ok (.iaload, 1) := by decide +kernel
theorem dX7_isHighNearer_34 : decode cX7_isHighNearer 34 = .ok (.iadd, 1) := by decide +kernel
theorem dX7_isHighNearer_35 : decode cX7_isHighNearer 35 = .ok (.i2l, 1) := by decide +kernel
theorem dX7_isHighNearer_36 : decode cX7_isHighNearer 36 = .ok (.lmul, 1) := by decide +kernel
theorem dX7_isHighNearer_37 : decode cX7_isHighNearer 37 = .ok (.lcmp, 1) := by decide +kernel
theorem dX7_isHighNearer_38 : decode cX7_isHighNearer 38 = .ok (.ifCond .lt 7, 3) := by decide +kernel
theorem dX7_isHighNearer_41 : decode cX7_isHighNearer 41 = .ok (.iconst 1, 1) := by decide +kernel
theorem dX7_isHighNearer_42 : decode cX7_isHighNearer 42 = .ok (.goto 4, 3) := by decide +kernel
theorem dX7_isHighNearer_45 : decode cX7_isHighNearer 45 = .ok (.iconst 0, 1) := by decide +kernel
theorem dX7_isHighNearer_46 : decode cX7_isHighNearer 46 = .ok (.ireturn, 1) := by decide +kernel
theorem dX7_isLowCheaper_0 : decode cX7_isLowCheaper 0 = .ok (.aload_n 0, 1) := by decide +kernel
theorem dX7_isLowCheaper_1 : decode cX7_isLowCheaper 1 = .ok (.getfield 15, 3) := by decide +kernel
theorem dX7_isLowCheaper_4 : decode cX7_isLowCheaper 4 = .ok (.getfield 108, 3) := by decide +kernel
theorem dX7_isLowCheaper_7 : decode cX7_isLowCheaper 7 = .ok (.iload_n 1, 1) := by decide +kernel
theorem dX7_isLowCheaper_8 : decode cX7_isLowCheaper 8 = .ok (.laload, 1) := by decide +kernel
theorem dX7_isLowCheaper_9 : decode cX7_isLowCheaper 9 = .ok (.ldc2_w 112, 3) := by decide +kernel
theorem dX7_isLowCheaper_12 : decode cX7_isLowCheaper 12 = .ok (.aload_n 0, 1) := by decide +kernel
theorem dX7_isLowCheaper_13 : decode cX7_isLowCheaper 13 = .ok (.getfield 15, 3) := by decide +kernel
theorem dX7_isLowCheaper_16 : decode cX7_isLowCheaper 16 = .ok (.getfield 114, 3) := by decide +kernel
theorem dX7_isLowCheaper_19 : decode cX7_isLowCheaper 19 = .ok (.iload_n 1, 1) := by decide +kernel
theorem dX7_isLowCheaper_20 : decode cX7_isLowCheaper 20 = .ok (.iaload, 1) := by decide +kernel
theorem dX7_isLowCheaper_21 : decode cX7_isLowCheaper 21 = .ok (.i2l, 1) := by decide +kernel
theorem dX7_isLowCheaper_22 : decode cX7_isLowCheaper 22 = .ok (.lmul, 1) := by decide +kernel
theorem dX7_isLowCheaper_23 : decode cX7_isLowCheaper 23 = .ok (.lsub, 1) := by decide +kernel
theorem dX7_isLowCheaper_24 : decode cX7_isLowCheaper 24 = .ok (.lstore 4, 2) := by decide +kernel
theorem dX7_isLowCheaper_26 : decode cX7_isLowCheaper 26 = .ok (.ldc2_w 112, 3) := by decide +kernel
theorem dX7_isLowCheaper_29 : decode cX7_isLowCheaper 29 = .ok (.aload_n 0, 1) := by decide +kernel
theorem dX7_isLowCheaper_30 : decode cX7_isLowCheaper 30 = .ok (.getfield 15, 3) := by decide +kernel
theorem dX7_isLowCheaper_33 : decode cX7_isLowCheaper 33 = .ok (.getfield 117, 3) := by decide +kernel
theorem dX7_isLowCheaper_36 : decode cX7_isLowCheaper 36 = .ok (.iload_n 1, 1) := by decide +kernel
theorem dX7_isLowCheaper_37 : decode cX7_isLowCheaper 37 = .ok (.iaload, 1) := by decide +kernel
theorem dX7_isLowCheaper_38 : decode cX7_isLowCheaper 38 = .ok (.i2l, 1) := by decide +kernel
theorem dX7_isLowCheaper_39 : decode cX7_isLowCheaper 39 = .ok (.lmul, 1) := by decide +kernel
theorem dX7_isLowCheaper_40 : decode cX7_isLowCheaper 40 = .ok (.aload_n 0, 1) := by decide +kernel
theorem dX7_isLowCheaper_41 : decode cX7_isLowCheaper 41 = .ok (.getfield 15, 3) := by decide +kernel
theorem dX7_isLowCheaper_44 : decode cX7_isLowCheaper 44 = .ok (.getfield 108, 3) := by decide +kernel
theorem dX7_isLowCheaper_47 : decode cX7_isLowCheaper 47 = .ok (.iload_n 1, 1) := by decide +kernel
theorem dX7_isLowCheaper_48 : decode cX7_isLowCheaper 48 = .ok (.laload, 1) := by decide +kernel
theorem dX7_isLowCheaper_49 : decode cX7_isLowCheaper 49 = .ok (.lsub, 1) := by decide +kernel
theorem dX7_isLowCheaper_50 : decode cX7_isLowCheaper 50 = .ok (.lstore 6, 2) := by decide +kernel
theorem dX7_isLowCheaper_52 : decode cX7_isLowCheaper 52 = .ok (.iload_n 2, 1) := by decide +kernel
theorem dX7_isLowCheaper_53 : decode cX7_isLowCheaper 53 = .ok (.i2l, 1) := by decide +kernel
theorem dX7_isLowCheaper_54 : decode cX7_isLowCheaper 54 = .ok (.lload 4, 2) := by decide +kernel
theorem dX7_isLowCheaper_56 : decode cX7_isLowCheaper 56 = .ok (.lmul, 1) := by decide +kernel
theorem dX7_isLowCheaper_57 : decode cX7_isLowCheaper 57 = .ok (.iload_n 3, 1) := by decide +kernel
theorem dX7_isLowCheaper_58 : decode cX7_isLowCheaper 58 = .ok (.iload_n 2, 1) := by decide +kernel
theorem dX7_isLowCheaper_59 : decode cX7_isLowCheaper 59 = .ok (.isub, 1) := by decide +kernel
theorem dX7_isLowCheaper_60 : decode cX7_isLowCheaper 60 = .ok (.i2l, 1) := by decide +kernel
theorem dX7_isLowCheaper_61 : decode cX7_isLowCheaper 61 = .ok (.lload 6, 2) := by decide +kernel
theorem dX7_isLowCheaper_63 : decode cX7_isLowCheaper 63 = .ok (.lmul, 1) := by decide +kernel
theorem dX7_isLowCheaper_64 : decode cX7_isLowCheaper 64 = .ok (.lcmp, 1) := by decide +kernel
theorem dX7_isLowCheaper_65 : decode cX7_isLowCheaper 65 = .ok (.ifCond .gt 7, 3) := by decide +kernel
theorem dX7_isLowCheaper_68 : decode cX7_isLowCheaper 68 = .ok (.iconst 1, 1) := by decide +kernel
theorem dX7_isLowCheaper_69 : decode cX7_isLowCheaper 69 = .ok (.goto 4, 3) := by decide +kernel
theorem dX7_isLowCheaper_72 : decode cX7_isLowCheaper 72 = .ok (.iconst 0, 1) := by decide +kernel
theorem dX7_isLowCheaper_73 : decode cX7_isLowCheaper 73 = .ok (.ireturn, 1) := by decide +kernel
theorem dX7_takeLow_0 : decode cX7_takeLow 0 = .ok (.aload_n 1, 1) := by decide +kernel
theorem dX7_takeLow_1 : decode cX7_takeLow 1 = .ok (.getfield 120, 3) := by decide +kernel
theorem dX7_takeLow_4 : decode cX7_takeLow 4 = .ok (.iload_n 2, 1) := by decide +kernel
theorem dX7_takeLow_5 : decode cX7_takeLow 5 = .ok (.iload_n 3, 1) := by decide +kernel
theorem dX7_takeLow_6 : decode cX7_takeLow 6 = .ok (.iastore, 1) := by decide +kernel
theorem dX7_takeLow_7 : decode cX7_takeLow 7 = .ok (.aload_n 1, 1) := by decide +kernel
theorem dX7_takeLow_8 : decode cX7_takeLow 8 = .ok (.getfield 80, 3) := by decide +kernel
theorem dX7_takeLow_11 : decode cX7_takeLow 11 = .ok (.iload_n 2, 1) := by decide +kernel
theorem dX7_takeLow_12 : decode cX7_takeLow 12 = .ok (.dup2, 1) := by decide +kernel
theorem dX7_takeLow_13 : decode cX7_takeLow 13 = .ok (.iaload, 1) := by decide +kernel
theorem dX7_takeLow_14 : decode cX7_takeLow 14 = .ok (.iload_n 3, 1) := by decide +kernel
theorem dX7_takeLow_15 : decode cX7_takeLow 15 = .ok (.isub, 1) := by decide +kernel
theorem dX7_takeLow_16 : decode cX7_takeLow 16 = .ok (.iastore, 1) := by decide +kernel
theorem dX7_takeLow_17 : decode cX7_takeLow 17 = .ok (.aload_n 1, 1) := by decide +kernel
theorem dX7_takeLow_18 : decode cX7_takeLow 18 = .ok (.dup, 1) := by decide +kernel
theorem dX7_takeLow_19 : decode cX7_takeLow 19 = .ok (.getfield 77, 3) := by decide +kernel
theorem dX7_takeLow_22 : decode cX7_takeLow 22 = .ok (.iload_n 3, 1) := by decide +kernel
theorem dX7_takeLow_23 : decode cX7_takeLow 23 = .ok (.aload_n 0, 1) := by decide +kernel
theorem dX7_takeLow_24 : decode cX7_takeLow 24 = .ok (.getfield 15, 3) := by decide +kernel
theorem dX7_takeLow_27 : decode cX7_takeLow 27 = .ok (.getfield 114, 3) := by decide +kernel
theorem dX7_takeLow_30 : decode cX7_takeLow 30 = .ok (.iload_n 2, 1) := by decide +kernel
theorem dX7_takeLow_31 : decode cX7_takeLow 31 = .ok (.iaload, 1) := by decide +kernel
theorem dX7_takeLow_32 : decode cX7_takeLow 32 = .ok (.imul, 1) := by decide +kernel
theorem dX7_takeLow_33 : decode cX7_takeLow 33 = .ok (.isub, 1) := by decide +kernel
theorem dX7_takeLow_34 : decode cX7_takeLow 34 = .ok (.putfield 77, 3) := by decide +kernel
theorem dX7_takeLow_37 : decode cX7_takeLow 37 = .ok (.return_, 1) := by decide +kernel
theorem dX7_takeHigh_0 : decode cX7_takeHigh 0 = .ok (.aload_n 1, 1) := by decide +kernel
theorem dX7_takeHigh_1 : decode cX7_takeHigh 1 = .ok (.getfield 123, 3) := by decide +kernel
theorem dX7_takeHigh_4 : decode cX7_takeHigh 4 = .ok (.iload_n 2, 1) := by decide +kernel
theorem dX7_takeHigh_5 : decode cX7_takeHigh 5 = .ok (.iload_n 3, 1) := by decide +kernel
theorem dX7_takeHigh_6 : decode cX7_takeHigh 6 = .ok (.iastore, 1) := by decide +kernel
theorem dX7_takeHigh_7 : decode cX7_takeHigh 7 = .ok (.aload_n 1, 1) := by decide +kernel
theorem dX7_takeHigh_8 : decode cX7_takeHigh 8 = .ok (.getfield 80, 3) := by decide +kernel
theorem dX7_takeHigh_11 : decode cX7_takeHigh 11 = .ok (.iload_n 2, 1) := by decide +kernel
theorem dX7_takeHigh_12 : decode cX7_takeHigh 12 = .ok (.dup2, 1) := by decide +kernel
theorem dX7_takeHigh_13 : decode cX7_takeHigh 13 = .ok (.iaload, 1) := by decide +kernel
theorem dX7_takeHigh_14 : decode cX7_takeHigh 14 = .ok (.iload_n 3, 1) := by decide +kernel
theorem dX7_takeHigh_15 : decode cX7_takeHigh 15 = .ok (.iadd, 1) := by decide +kernel
theorem dX7_takeHigh_16 : decode cX7_takeHigh 16 = .ok (.iastore, 1) := by decide +kernel
theorem dX7_takeHigh_17 : decode cX7_takeHigh 17 = .ok (.aload_n 1, 1) := by decide +kernel
theorem dX7_takeHigh_18 : decode cX7_takeHigh 18 = .ok (.dup, 1) := by decide +kernel
theorem dX7_takeHigh_19 : decode cX7_takeHigh 19 = .ok (.getfield 77, 3) := by decide +kernel
theorem dX7_takeHigh_22 : decode cX7_takeHigh 22 = .ok (.iload_n 3, 1) := by decide +kernel
theorem dX7_takeHigh_23 : decode cX7_takeHigh 23 = .ok (.aload_n 0, 1) := by decide +kernel
theorem dX7_takeHigh_24 : decode cX7_takeHigh 24 = .ok (.getfield 15, 3) := by decide +kernel
theorem dX7_takeHigh_27 : decode cX7_takeHigh 27 = .ok (.getfield 117, 3) := by decide +kernel
theorem dX7_takeHigh_30 : decode cX7_takeHigh 30 = .ok (.iload_n 2, 1) := by decide +kernel
theorem dX7_takeHigh_31 : decode cX7_takeHigh 31 = .ok (.iaload, 1) := by decide +kernel
theorem dX7_takeHigh_32 : decode cX7_takeHigh 32 = .ok (.imul, 1) := by decide +kernel
theorem dX7_takeHigh_33 : decode cX7_takeHigh 33 = .ok (.iadd, 1) := by decide +kernel
theorem dX7_takeHigh_34 : decode cX7_takeHigh 34 = .ok (.putfield 77, 3) := by decide +kernel
theorem dX7_takeHigh_37 : decode cX7_takeHigh 37 = .ok (.return_, 1) := by decide +kernel
theorem dX7_divideAndSettle_0 : decode cX7_divideAndSettle 0 = .ok (.iload_n 2, 1) := by decide +kernel
theorem dX7_divideAndSettle_1 : decode cX7_divideAndSettle 1 = .ok (.iconst 1, 1) := by decide +kernel
theorem dX7_divideAndSettle_2 : decode cX7_divideAndSettle 2 = .ok (.if_icmp .ge 5, 3) := by decide +kernel
theorem dX7_divideAndSettle_5 : decode cX7_divideAndSettle 5 = .ok (.iconst 1, 1) := by decide +kernel
theorem dX7_divideAndSettle_6 : decode cX7_divideAndSettle 6 = .ok (.ireturn, 1) := by decide +kernel
theorem dX7_divideAndSettle_7 : decode cX7_divideAndSettle 7 = .ok (.iconst 0, 1) := by decide +kernel
theorem dX7_divideAndSettle_8 : decode cX7_divideAndSettle 8 = .ok (.istore_n 3, 1) := by decide +kernel
theorem dX7_divideAndSettle_9 : decode cX7_divideAndSettle 9 = .ok (.iload_n 3, 1) := by decide +kernel
theorem dX7_divideAndSettle_10 : decode cX7_divideAndSettle 10 = .ok (.aload_n 0, 1) := by decide +kernel
theorem dX7_divideAndSettle_11 : decode cX7_divideAndSettle 11 = .ok (.getfield 15, 3) := by decide +kernel
theorem dX7_divideAndSettle_14 : decode cX7_divideAndSettle 14 = .ok (.getfield 53, 3) := by decide +kernel
theorem dX7_divideAndSettle_17 : decode cX7_divideAndSettle 17 = .ok (.if_icmp .ge 19, 3) := by decide +kernel
theorem dX7_divideAndSettle_20 : decode cX7_divideAndSettle 20 = .ok (.aload_n 1, 1) := by decide +kernel
theorem dX7_divideAndSettle_21 : decode cX7_divideAndSettle 21 = .ok (.getfield 80, 3) := by decide +kernel
theorem dX7_divideAndSettle_24 : decode cX7_divideAndSettle 24 = .ok (.iload_n 3, 1) := by decide +kernel
theorem dX7_divideAndSettle_25 : decode cX7_divideAndSettle 25 = .ok (.dup2, 1) := by decide +kernel
theorem dX7_divideAndSettle_26 : decode cX7_divideAndSettle 26 = .ok (.iaload, 1) := by decide +kernel
theorem dX7_divideAndSettle_27 : decode cX7_divideAndSettle 27 = .ok (.iload_n 2, 1) := by decide +kernel
theorem dX7_divideAndSettle_28 : decode cX7_divideAndSettle 28 = .ok (.idiv, 1) := by decide +kernel
theorem dX7_divideAndSettle_29 : decode cX7_divideAndSettle 29 = .ok (.iastore, 1) := by decide +kernel
theorem dX7_divideAndSettle_30 : decode cX7_divideAndSettle 30 = .ok (.iinc 3 1, 3) := by decide +kernel
theorem dX7_divideAndSettle_33 : decode cX7_divideAndSettle 33 = .ok (.goto (-24), 3) := by decide +kernel
theorem dX7_divideAndSettle_36 : decode cX7_divideAndSettle 36 = .ok (.aload_n 1, 1) := by decide +kernel
theorem dX7_divideAndSettle_37 : decode cX7_divideAndSettle 37 = .ok (.aload_n 1, 1) := by decide +kernel
theorem dX7_divideAndSettle_38 : decode cX7_divideAndSettle 38 = .ok (.getfield 77, 3) := by decide +kernel
theorem dX7_divideAndSettle_41 : decode cX7_divideAndSettle 41 = .ok (.iload_n 2, 1) := by decide +kernel
theorem dX7_divideAndSettle_42 : decode cX7_divideAndSettle 42 = .ok (.invokestatic 126, 3) := by decide +kernel
theorem dX7_divideAndSettle_45 : decode cX7_divideAndSettle 45 = .ok (.putfield 77, 3) := by decide +kernel
theorem dX7_divideAndSettle_48 : decode cX7_divideAndSettle 48 = .ok (.aload_n 0, 1) := by decide +kernel
theorem dX7_divideAndSettle_49 : decode cX7_divideAndSettle 49 = .ok (.getfield 19, 3) := by decide +kernel
theorem dX7_divideAndSettle_52 : decode cX7_divideAndSettle 52 = .ok (.invokevirtual 129, 3) := by decide +kernel
theorem dX7_divideAndSettle_55 : decode cX7_divideAndSettle 55 = .ok (.ireturn, 1) := by decide +kernel
theorem dX8_init_0 : decode cX8_init 0 = .ok (.aload_n 0, 1) := by decide +kernel
theorem dX8_init_1 : decode cX8_init 1 = .ok (.invokespecial 1, 3) := by decide +kernel
theorem dX8_init_4 : decode cX8_init 4 = .ok (.aload_n 0, 1) := by decide +kernel
theorem dX8_init_5 : decode cX8_init 5 = .ok (.new 7, 3) := by decide +kernel
theorem dX8_init_8 : decode cX8_init 8 = .ok (.dup, 1) := by decide +kernel
theorem dX8_init_9 : decode cX8_init 9 = .ok (.invokespecial 9, 3) := by decide +kernel
theorem dX8_init_12 : decode cX8_init 12 = .ok (.putfield 10, 3) := by decide +kernel
theorem dX8_init_15 : decode cX8_init 15 = .ok (.aload_n 0, 1) := by decide +kernel
theorem dX8_init_16 : decode cX8_init 16 = .ok (.new 16, 3) := by decide +kernel
theorem dX8_init_19 : decode cX8_init 19 = .ok (.dup, 1) := by decide +kernel
theorem dX8_init_20 : decode cX8_init 20 = .ok (.aload_n 0, 1) := by decide +kernel
theorem dX8_init_21 : decode cX8_init 21 = .ok (.getfield 10, 3) := by decide +kernel
theorem dX8_init_24 : decode cX8_init 24 = .ok (.invokespecial 18, 3) := by decide +kernel
theorem dX8_init_27 : decode cX8_init 27 = .ok (.putfield 21, 3) := by decide +kernel
theorem dX8_init_30 : decode cX8_init 30 = .ok (.aload_n 0, 1) := by decide +kernel
theorem dX8_init_31 : decode cX8_init 31 = .ok (.new 25, 3) := by decide +kernel
theorem dX8_init_34 : decode cX8_init 34 = .ok (.dup, 1) := by decide +kernel
theorem dX8_init_35 : decode cX8_init 35 = .ok (.aload_n 0, 1) := by decide +kernel
theorem dX8_init_36 : decode cX8_init 36 = .ok (.getfield 10, 3) := by decide +kernel
theorem dX8_init_39 : decode cX8_init 39 = .ok (.aload_n 0, 1) := by decide +kernel
theorem dX8_init_40 : decode cX8_init 40 = .ok (.getfield 21, 3) := by decide +kernel
theorem dX8_init_43 : decode cX8_init 43 = .ok (.invokespecial 27, 3) := by decide +kernel
theorem dX8_init_46 : decode cX8_init 46 = .ok (.putfield 30, 3) := by decide +kernel
theorem dX8_init_49 : decode cX8_init 49 = .ok (.aload_n 0, 1) := by decide +kernel
theorem dX8_init_50 : decode cX8_init 50 = .ok (.new 34, 3) := by decide +kernel
theorem dX8_init_53 : decode cX8_init 53 = .ok (.dup, 1) := by decide +kernel
theorem dX8_init_54 : decode cX8_init 54 = .ok (.aload_n 0, 1) := by decide +kernel
theorem dX8_init_55 : decode cX8_init 55 = .ok (.getfield 10, 3) := by decide +kernel
theorem dX8_init_58 : decode cX8_init 58 = .ok (.aload_n 0, 1) := by decide +kernel
theorem dX8_init_59 : decode cX8_init 59 = .ok (.getfield 21, 3) := by decide +kernel
theorem dX8_init_62 : decode cX8_init 62 = .ok (.invokespecial 36, 3) := by decide +kernel
theorem dX8_init_65 : decode cX8_init 65 = .ok (.putfield 37, 3) := by decide +kernel
theorem dX8_init_68 : decode cX8_init 68 = .ok (.aload_n 0, 1) := by decide +kernel
theorem dX8_init_69 : decode cX8_init 69 = .ok (.new 41, 3) := by decide +kernel
theorem dX8_init_72 : decode cX8_init 72 = .ok (.dup, 1) := by decide +kernel
theorem dX8_init_73 : decode cX8_init 73 = .ok (.aload_n 0, 1) := by decide +kernel
theorem dX8_init_74 : decode cX8_init 74 = .ok (.getfield 10, 3) := by decide +kernel
theorem dX8_init_77 : decode cX8_init 77 = .ok (.aload_n 0, 1) := by decide +kernel
theorem dX8_init_78 : decode cX8_init 78 = .ok (.getfield 21, 3) := by decide +kernel
theorem dX8_init_81 : decode cX8_init 81 = .ok (.invokespecial 43, 3) := by decide +kernel
theorem dX8_init_84 : decode cX8_init 84 = .ok (.putfield 44, 3) := by decide +kernel
theorem dX8_init_87 : decode cX8_init 87 = .ok (.aload_n 0, 1) := by decide +kernel
theorem dX8_init_88 : decode cX8_init 88 = .ok (.new 48, 3) := by decide +kernel
theorem dX8_init_91 : decode cX8_init 91 = .ok (.dup, 1) := by decide +kernel
theorem dX8_init_92 : decode cX8_init 92 = .ok (.aload_n 0, 1) := by decide +kernel
theorem dX8_init_93 : decode cX8_init 93 = .ok (.getfield 10, 3) := by decide +kernel
theorem dX8_init_96 : decode cX8_init 96 = .ok (.invokespecial 50, 3) := by decide +kernel
theorem dX8_init_99 : decode cX8_init 99 = .ok (.putfield 51, 3) := by decide +kernel
theorem dX8_init_102 : decode cX8_init 102 = .ok (.aload_n 0, 1) := by decide +kernel
theorem dX8_init_103 : decode cX8_init 103 = .ok (.new 55, 3) := by decide +kernel
theorem dX8_init_106 : decode cX8_init 106 = .ok (.dup, 1) := by decide +kernel
theorem dX8_init_107 : decode cX8_init 107 = .ok (.aload_n 0, 1) := by decide +kernel
theorem dX8_init_108 : decode cX8_init 108 = .ok (.getfield 10, 3) := by decide +kernel
theorem dX8_init_111 : decode cX8_init 111 = .ok (.invokespecial 57, 3) := by decide +kernel
theorem dX8_init_114 : decode cX8_init 114 = .ok (.putfield 58, 3) := by decide +kernel
theorem dX8_init_117 : decode cX8_init 117 = .ok (.return_, 1) := by decide +kernel
theorem dX8_name_0 : decode cX8_name 0 = .ok (.iload_n 1, 1) := by decide +kernel
theorem dX8_name_1 : decode cX8_name 1 = .ok (.bipush 30, 2) := by decide +kernel
theorem dX8_name_3 : decode cX8_name 3 = .ok (.invokestatic 62, 3) := by decide +kernel
theorem dX8_name_6 : decode cX8_name 6 = .ok (.ifCond .ne 17, 3) := by decide +kernel
theorem dX8_name_9 : decode cX8_name 9 = .ok (.iload_n 2, 1) := by decide +kernel
theorem dX8_name_10 : decode cX8_name 10 = .ok (.bipush 30, 2) := by decide +kernel
theorem dX8_name_12 : decode cX8_name 12 = .ok (.invokestatic 62, 3) := by decide +kernel
theorem dX8_name_15 : decode cX8_name 15 = .ok (.ifCond .ne 8, 3) := by decide +kernel
theorem dX8_name_18 : decode cX8_name 18 = .ok (.iload_n 2, 1) := by decide +kernel
theorem dX8_name_19 : decode cX8_name 19 = .ok (.iload_n 1, 1) := by decide +kernel
theorem dX8_name_20 : decode cX8_name 20 = .ok (.if_icmp .ge 6, 3) := by decide +kernel
theorem dX8_name_23 : decode cX8_name 23 = .ok (.bipush (-2), 2) := by decide +kernel
theorem dX8_name_25 : decode cX8_name 25 = .ok (.ireturn, 1) := by decide +kernel
theorem dX8_name_26 : decode cX8_name 26 = .ok (.aload_n 0, 1) := by decide +kernel
theorem dX8_name_27 : decode cX8_name 27 = .ok (.getfield 10, 3) := by decide +kernel
theorem dX8_name_30 : decode cX8_name 30 = .ok (.getfield 66, 3) := by decide +kernel
theorem dX8_name_33 : decode cX8_name 33 = .ok (.bipush 8, 2) := by decide +kernel
theorem dX8_name_35 : decode cX8_name 35 = .ok (.if_icmp .lt 6, 3) := by decide +kernel
theorem dX8_name_38 : decode cX8_name 38 = .ok (.bipush (-4), 2) := by decide +kernel
theorem dX8_name_40 : decode cX8_name 40 = .ok (.ireturn, 1) := by decide +kernel
theorem dX8_name_41 : decode cX8_name 41 = .ok (.aload_n 0, 1) := by decide +kernel
theorem dX8_name_42 : decode cX8_name 42 = .ok (.getfield 21, 3) := by decide +kernel
theorem dX8_name_45 : decode cX8_name 45 = .ok (.iconst 0, 1) := by decide +kernel
theorem dX8_name_46 : decode cX8_name 46 = .ok (.putfield 70, 3) := by decide +kernel
theorem dX8_name_49 : decode cX8_name 49 = .ok (.aload_n 0, 1) := by decide +kernel
theorem dX8_name_50 : decode cX8_name 50 = .ok (.getfield 10, 3) := by decide +kernel
theorem dX8_name_53 : decode cX8_name 53 = .ok (.iload_n 1, 1) := by decide +kernel
theorem dX8_name_54 : decode cX8_name 54 = .ok (.iload_n 2, 1) := by decide +kernel
theorem dX8_name_55 : decode cX8_name 55 = .ok (.invokevirtual 73, 3) := by decide +kernel
theorem dX8_name_58 : decode cX8_name 58 = .ok (.ireturn, 1) := by decide +kernel
theorem dX8_row_0 : decode cX8_row 0 = .ok (.iload_n 1, 1) := by decide +kernel
theorem dX8_row_1 : decode cX8_row 1 = .ok (.sipush 9999, 3) := by decide +kernel
theorem dX8_row_4 : decode cX8_row 4 = .ok (.invokestatic 62, 3) := by decide +kernel
theorem dX8_row_7 : decode cX8_row 7 = .ok (.ifCond .eq 6, 3) := by decide +kernel
theorem dX8_row_10 : decode cX8_row 10 = .ok (.bipush (-2), 2) := by decide +kernel
theorem dX8_row_12 : decode cX8_row 12 = .ok (.ireturn, 1) := by decide +kernel
theorem dX8_row_13 : decode cX8_row 13 = .ok (.aload_n 0, 1) := by decide +kernel
theorem dX8_row_14 : decode cX8_row 14 = .ok (.getfield 10, 3) := by decide +kernel
theorem dX8_row_17 : decode cX8_row 17 = .ok (.getfield 77, 3) := by decide +kernel
theorem dX8_row_20 : decode cX8_row 20 = .ok (.bipush 10, 2) := by decide +kernel
theorem dX8_row_22 : decode cX8_row 22 = .ok (.if_icmp .lt 6, 3) := by decide +kernel
theorem dX8_row_25 : decode cX8_row 25 = .ok (.bipush (-4), 2) := by decide +kernel
theorem dX8_row_27 : decode cX8_row 27 = .ok (.ireturn, 1) := by decide +kernel
theorem dX8_row_28 : decode cX8_row 28 = .ok (.aload_n 0, 1) := by decide +kernel
theorem dX8_row_29 : decode cX8_row 29 = .ok (.getfield 21, 3) := by decide +kernel
theorem dX8_row_32 : decode cX8_row 32 = .ok (.iconst 0, 1) := by decide +kernel
theorem dX8_row_33 : decode cX8_row 33 = .ok (.putfield 70, 3) := by decide +kernel
theorem dX8_row_36 : decode cX8_row 36 = .ok (.aload_n 0, 1) := by decide +kernel
theorem dX8_row_37 : decode cX8_row 37 = .ok (.getfield 10, 3) := by decide +kernel
theorem dX8_row_40 : decode cX8_row 40 = .ok (.iload_n 1, 1) := by decide +kernel
theorem dX8_row_41 : decode cX8_row 41 = .ok (.invokevirtual 80, 3) := by decide +kernel
theorem dX8_row_44 : decode cX8_row 44 = .ok (.ireturn, 1) := by decide +kernel
theorem dX8_factor_0 : decode cX8_factor 0 = .ok (.aload_n 0, 1) := by decide +kernel
theorem dX8_factor_1 : decode cX8_factor 1 = .ok (.getfield 10, 3) := by decide +kernel
theorem dX8_factor_4 : decode cX8_factor 4 = .ok (.iload_n 1, 1) := by decide +kernel
theorem dX8_factor_5 : decode cX8_factor 5 = .ok (.invokevirtual 84, 3) := by decide +kernel
theorem dX8_factor_8 : decode cX8_factor 8 = .ok (.ifCond .eq 14, 3) := by decide +kernel
theorem dX8_factor_11 : decode cX8_factor 11 = .ok (.aload_n 0, 1) := by decide +kernel
theorem dX8_factor_12 : decode cX8_factor 12 = .ok (.getfield 10, 3) := by decide +kernel
theorem dX8_factor_15 : decode cX8_factor 15 = .ok (.iload_n 2, 1) := by decide +kernel
theorem dX8_factor_16 : decode cX8_factor 16 = .ok (.invokevirtual 88, 3) := by decide +kernel
theorem dX8_factor_19 : decode cX8_factor 19 = .ok (.ifCond .ne 5, 3) := by decide +kernel
theorem dX8_factor_22 : decode cX8_factor 22 = .ok (.iconst (-1), 1) := by decide +kernel
theorem dX8_factor_23 : decode cX8_factor 23 = .ok (.ireturn, 1) := by decide +kernel
theorem dX8_factor_24 : decode cX8_factor 24 = .ok (.iload_n 3, 1) := by decide +kernel
theorem dX8_factor_25 : decode cX8_factor 25 = .ok (.bipush 50, 2) := by decide +kernel
theorem dX8_factor_27 : decode cX8_factor 27 = .ok (.invokestatic 62, 3) := by decide +kernel
theorem dX8_factor_30 : decode cX8_factor 30 = .ok (.ifCond .eq 6, 3) := by decide +kernel
theorem dX8_factor_33 : decode cX8_factor 33 = .ok (.bipush (-2), 2) := by decide +kernel
theorem dX8_factor_35 : decode cX8_factor 35 = .ok (.ireturn, 1) := by decide +kernel
theorem dX8_factor_36 : decode cX8_factor 36 = .ok (.aload_n 0, 1) := by decide +kernel
theorem dX8_factor_37 : decode cX8_factor 37 = .ok (.getfield 10, 3) := by decide +kernel
theorem dX8_factor_40 : decode cX8_factor 40 = .ok (.getfield 91, 3) := by decide +kernel
theorem dX8_factor_43 : decode cX8_factor 43 = .ok (.iload_n 1, 1) := by decide +kernel
theorem dX8_factor_44 : decode cX8_factor 44 = .ok (.aaload, 1) := by decide +kernel
theorem dX8_factor_45 : decode cX8_factor 45 = .ok (.iload_n 2, 1) := by decide +kernel
theorem dX8_factor_46 : decode cX8_factor 46 = .ok (.iaload, 1) := by decide +kernel
theorem dX8_factor_47 : decode cX8_factor 47 = .ok (.istore 4, 2) := by decide +kernel
theorem dX8_factor_49 : decode cX8_factor 49 = .ok (.aload_n 0, 1) := by decide +kernel
theorem dX8_factor_50 : decode cX8_factor 50 = .ok (.getfield 10, 3) := by decide +kernel
theorem dX8_factor_53 : decode cX8_factor 53 = .ok (.getfield 91, 3) := by decide +kernel
theorem dX8_factor_56 : decode cX8_factor 56 = .ok (.iload_n 1, 1) := by decide +kernel
theorem dX8_factor_57 : decode cX8_factor 57 = .ok (.aaload, 1) := by decide +kernel
theorem dX8_factor_58 : decode cX8_factor 58 = .ok (.iload_n 2, 1) := by decide +kernel
theorem dX8_factor_59 : decode cX8_factor 59 = .ok (.iload_n 3, 1) := by decide +kernel
theorem dX8_factor_60 : decode cX8_factor 60 = .ok (.iastore, 1) := by decide +kernel
theorem dX8_factor_61 : decode cX8_factor 61 = .ok (.aload_n 0, 1) := by decide +kernel
theorem dX8_factor_62 : decode cX8_factor 62 = .ok (.getfield 21, 3) := by decide +kernel
theorem dX8_factor_65 : decode cX8_factor 65 = .ok (.iconst 0, 1) := by decide +kernel
theorem dX8_factor_66 : decode cX8_factor 66 = .ok (.putfield 70, 3) := by decide +kernel
theorem dX8_factor_69 : decode cX8_factor 69 = .ok (.iload 4, 2) := by decide +kernel
theorem dX8_factor_71 : decode cX8_factor 71 = .ok (.ireturn, 1) := by decide +kernel
theorem dX8_point_0 : decode cX8_point 0 = .ok (.aload_n 0, 1) := by decide +kernel
theorem dX8_point_1 : decode cX8_point 1 = .ok (.getfield 10, 3) := by decide +kernel
theorem dX8_point_4 : decode cX8_point 4 = .ok (.iload_n 1, 1) := by decide +kernel
theorem dX8_point_5 : decode cX8_point 5 = .ok (.invokevirtual 88, 3) := by decide +kernel
theorem dX8_point_8 : decode cX8_point 8 = .ok (.ifCond .ne 5, 3) := by decide +kernel
theorem dX8_point_11 : decode cX8_point 11 = .ok (.iconst (-1), 1) := by decide +kernel
theorem dX8_point_12 : decode cX8_point 12 = .ok (.ireturn, 1) := by decide +kernel
theorem dX8_point_13 : decode cX8_point 13 = .ok (.iload_n 3, 1) := by decide +kernel
theorem dX8_point_14 : decode cX8_point 14 = .ok (.iconst 1, 1) := by decide +kernel
theorem dX8_point_15 : decode cX8_point 15 = .ok (.if_icmp .lt 19, 3) := by decide +kernel
theorem dX8_point_18 : decode cX8_point 18 = .ok (.iload_n 3, 1) := by decide +kernel
theorem dX8_point_19 : decode cX8_point 19 = .ok (.bipush 12, 2) := by decide +kernel
theorem dX8_point_21 : decode cX8_point 21 = .ok (.if_icmp .gt 13, 3) := by decide +kernel
theorem dX8_point_24 : decode cX8_point 24 = .ok (.iload_n 2, 1) := by decide +kernel
theorem dX8_point_25 : decode cX8_point 25 = .ok (.sipush 400, 3) := by decide +kernel
theorem dX8_point_28 : decode cX8_point 28 = .ok (.invokestatic 62, 3) := by decide +kernel
theorem dX8_point_31 : decode cX8_point 31 = .ok (.ifCond .eq 6, 3) := by decide +kernel
theorem dX8_point_34 : decode cX8_point 34 = .ok (.bipush (-2), 2) := by decide +kernel
theorem dX8_point_36 : decode cX8_point 36 = .ok (.ireturn, 1) := by decide +kernel
theorem dX8_point_37 : decode cX8_point 37 = .ok (.aload_n 0, 1) := by decide +kernel
theorem dX8_point_38 : decode cX8_point 38 = .ok (.getfield 10, 3) := by decide +kernel
theorem dX8_point_41 : decode cX8_point 41 = .ok (.getfield 95, 3) := by decide +kernel
theorem dX8_point_44 : decode cX8_point 44 = .ok (.iload_n 1, 1) := by decide +kernel
theorem dX8_point_45 : decode cX8_point 45 = .ok (.iload_n 2, 1) := by decide +kernel
theorem dX8_point_46 : decode cX8_point 46 = .ok (.i2l, 1) := by decide +kernel
theorem dX8_point_47 : decode cX8_point 47 = .ok (.sipush 27720, 3) := by decide +kernel
theorem dX8_point_50 : decode cX8_point 50 = .ok (.iload_n 3, 1) := by decide +kernel
theorem dX8_point_51 : decode cX8_point 51 = .ok (.idiv, 1) := by decide +kernel
theorem dX8_point_52 : decode cX8_point 52 = .ok (.i2l, 1) := by decide +kernel
theorem dX8_point_53 : decode cX8_point 53 = .ok (.lmul, 1) := by decide +kernel
theorem dX8_point_54 : decode cX8_point 54 = .ok (.lastore, 1) := by decide +kernel
theorem dX8_point_55 : decode cX8_point 55 = .ok (.iconst 1, 1) := by decide +kernel
theorem dX8_point_56 : decode cX8_point 56 = .ok (.ireturn, 1) := by decide +kernel
theorem dX8_find_0 : decode cX8_find 0 = .ok (.iload_n 1, 1) := by decide +kernel
theorem dX8_find_1 : decode cX8_find 1 = .ok (.ifCond .lt 8, 3) := by decide +kernel
theorem dX8_find_4 : decode cX8_find 4 = .ok (.iload_n 1, 1) := by decide +kernel
theorem dX8_find_5 : decode cX8_find 5 = .ok (.iconst 3, 1) := by decide +kernel
theorem dX8_find_6 : decode cX8_find 6 = .ok (.if_icmp .le 6, 3) := by decide +kernel
theorem dX8_find_9 : decode cX8_find 9 = .ok (.bipush (-2), 2) := by decide +kernel
theorem dX8_find_11 : decode cX8_find 11 = .ok (.ireturn, 1) := by decide +kernel
theorem dX8_find_12 : decode cX8_find 12 = .ok (.aload_n 0, 1) := by decide +kernel
theorem dX8_find_13 : decode cX8_find 13 = .ok (.getfield 21, 3) := by decide +kernel
theorem dX8_find_16 : decode cX8_find 16 = .ok (.getfield 70, 3) := by decide +kernel
theorem dX8_find_19 : decode cX8_find 19 = .ok (.istore_n 2, 1) := by decide +kernel
theorem dX8_find_20 : decode cX8_find 20 = .ok (.aload_n 0, 1) := by decide +kernel
theorem dX8_find_21 : decode cX8_find 21 = .ok (.getfield 21, 3) := by decide +kernel
theorem dX8_find_24 : decode cX8_find 24 = .ok (.iconst 1, 1) := by decide +kernel
theorem dX8_find_25 : decode cX8_find 25 = .ok (.putfield 99, 3) := by decide +kernel
theorem dX8_find_28 : decode cX8_find 28 = .ok (.iload_n 1, 1) := by decide +kernel
theorem dX8_find_29 : decode cX8_find 29 = .ok (.tableswitch 57 0 2 #[27, 37, 47], 27) := by decide +kernel
theorem dX8_find_56 : decode cX8_find 56 = .ok (.aload_n 0, 1) := by decide +kernel
theorem dX8_find_57 : decode cX8_find 57 = .ok (.getfield 30, 3) := by decide +kernel
theorem dX8_find_60 : decode cX8_find 60 = .ok (.invokevirtual 103, 3) := by decide +kernel
theorem dX8_find_63 : decode cX8_find 63 = .ok (.goto 30, 3) := by decide +kernel
theorem dX8_find_66 : decode cX8_find 66 = .ok (.aload_n 0, 1) := by decide +kernel
theorem dX8_find_67 : decode cX8_find 67 = .ok (.getfield 30, 3) := by decide +kernel
theorem dX8_find_70 : decode cX8_find 70 = .ok (.invokevirtual 106, 3) := by decide +kernel
theorem dX8_find_73 : decode cX8_find 73 = .ok (.goto 20, 3) := by decide +kernel
theorem dX8_find_76 : decode cX8_find 76 = .ok (.aload_n 0, 1) := by decide +kernel
theorem dX8_find_77 : decode cX8_find 77 = .ok (.getfield 37, 3) := by decide +kernel
theorem dX8_find_80 : decode cX8_find 80 = .ok (.invokevirtual 109, 3) := by decide +kernel
theorem dX8_find_83 : decode cX8_find 83 = .ok (.goto 10, 3) := by decide +kernel
theorem dX8_find_86 : decode cX8_find 86 = .ok (.aload_n 0, 1) := by decide +kernel
theorem dX8_find_87 : decode cX8_find 87 = .ok (.getfield 44, 3) := by decide +kernel
theorem dX8_find_90 : decode cX8_find 90 = .ok (.invokevirtual 112, 3) := by decide +kernel
theorem dX8_find_93 : decode cX8_find 93 = .ok (.aload_n 0, 1) := by decide +kernel
theorem dX8_find_94 : decode cX8_find 94 = .ok (.getfield 21, 3) := by decide +kernel
theorem dX8_find_97 : decode cX8_find 97 = .ok (.getfield 70, 3) := by decide +kernel
theorem dX8_find_100 : decode cX8_find 100 = .ok (.iload_n 2, 1) := by decide +kernel
theorem dX8_find_101 : decode cX8_find 101 = .ok (.isub, 1) := by decide +kernel
theorem dX8_find_102 : decode cX8_find 102 = .ok (.ireturn, 1) := by decide +kernel
theorem dX8_closed_0 : decode cX8_closed 0 = .ok (.aload_n 0, 1) := by decide +kernel
theorem dX8_closed_1 : decode cX8_closed 1 = .ok (.getfield 21, 3) := by decide +kernel
theorem dX8_closed_4 : decode cX8_closed 4 = .ok (.getfield 99, 3) := by decide +kernel
theorem dX8_closed_7 : decode cX8_closed 7 = .ok (.ifCond .eq 7, 3) := by decide +kernel
theorem dX8_closed_10 : decode cX8_closed 10 = .ok (.iconst 1, 1) := by decide +kernel
theorem dX8_closed_11 : decode cX8_closed 11 = .ok (.goto 4, 3) := by decide +kernel
theorem dX8_closed_14 : decode cX8_closed 14 = .ok (.iconst 0, 1) := by decide +kernel
theorem dX8_closed_15 : decode cX8_closed 15 = .ok (.ireturn, 1) := by decide +kernel
theorem dX8_cut_0 : decode cX8_cut 0 = .ok (.aload_n 0, 1) := by decide +kernel
theorem dX8_cut_1 : decode cX8_cut 1 = .ok (.getfield 21, 3) := by decide +kernel
theorem dX8_cut_4 : decode cX8_cut 4 = .ok (.iload_n 1, 1) := by decide +kernel
theorem dX8_cut_5 : decode cX8_cut 5 = .ok (.invokevirtual 115, 3) := by decide +kernel
theorem dX8_cut_8 : decode cX8_cut 8 = .ok (.ifCond .ne 13, 3) := by decide +kernel
theorem dX8_cut_11 : decode cX8_cut 11 = .ok (.new 118, 3) := by decide +kernel
theorem dX8_cut_14 : decode cX8_cut 14 = .ok (.dup, 1) := by decide +kernel
theorem dX8_cut_15 : decode cX8_cut 15 = .ok (.ldc 120, 2) := by decide +kernel
theorem dX8_cut_17 : decode cX8_cut 17 = .ok (.invokespecial 122, 3) := by decide +kernel
theorem dX8_cut_20 : decode cX8_cut 20 = .ok (.athrow, 1) := by decide +kernel
theorem dX8_cut_21 : decode cX8_cut 21 = .ok (.aload_n 0, 1) := by decide +kernel
theorem dX8_cut_22 : decode cX8_cut 22 = .ok (.getfield 21, 3) := by decide +kernel
theorem dX8_cut_25 : decode cX8_cut 25 = .ok (.getfield 125, 3) := by decide +kernel
theorem dX8_cut_28 : decode cX8_cut 28 = .ok (.iload_n 1, 1) := by decide +kernel
theorem dX8_cut_29 : decode cX8_cut 29 = .ok (.aaload, 1) := by decide +kernel
theorem dX8_cut_30 : decode cX8_cut 30 = .ok (.astore 4, 2) := by decide +kernel
theorem dX8_cut_32 : decode cX8_cut 32 = .ok (.iload_n 2, 1) := by decide +kernel
theorem dX8_cut_33 : decode cX8_cut 33 = .ok (.tableswitch 78 0 3 #[31, 60, 66, 72], 31) := by decide +kernel
theorem dX8_cut_64 : decode cX8_cut 64 = .ok (.aload_n 0, 1) := by decide +kernel
theorem dX8_cut_65 : decode cX8_cut 65 = .ok (.getfield 10, 3) := by decide +kernel
theorem dX8_cut_68 : decode cX8_cut 68 = .ok (.iload_n 3, 1) := by decide +kernel
theorem dX8_cut_69 : decode cX8_cut 69 = .ok (.invokevirtual 88, 3) := by decide +kernel
theorem dX8_cut_72 : decode cX8_cut 72 = .ok (.ifCond .ne 13, 3) := by decide +kernel
theorem dX8_cut_75 : decode cX8_cut 75 = .ok (.new 118, 3) := by decide +kernel
theorem dX8_cut_78 : decode cX8_cut 78 = .ok (.dup, 1) := by decide +kernel
theorem dX8_cut_79 : decode cX8_cut 79 = .ok (.ldc 129, 2) := by decide +kernel
theorem dX8_cut_81 : decode cX8_cut 81 = .ok (.invokespecial 122, 3) := by decide +kernel
theorem dX8_cut_84 : decode cX8_cut 84 = .ok (.athrow, 1) := by decide +kernel
theorem dX8_cut_85 : decode cX8_cut 85 = .ok (.aload 4, 2) := by decide +kernel
theorem dX8_cut_87 : decode cX8_cut 87 = .ok (.getfield 131, 3) := by decide +kernel
theorem dX8_cut_90 : decode cX8_cut 90 = .ok (.iload_n 3, 1) := by decide +kernel
theorem dX8_cut_91 : decode cX8_cut 91 = .ok (.iaload, 1) := by decide +kernel
theorem dX8_cut_92 : decode cX8_cut 92 = .ok (.ireturn, 1) := by decide +kernel
theorem dX8_cut_93 : decode cX8_cut 93 = .ok (.aload 4, 2) := by decide +kernel
theorem dX8_cut_95 : decode cX8_cut 95 = .ok (.getfield 136, 3) := by decide +kernel
theorem dX8_cut_98 : decode cX8_cut 98 = .ok (.ireturn, 1) := by decide +kernel
theorem dX8_cut_99 : decode cX8_cut 99 = .ok (.aload 4, 2) := by decide +kernel
theorem dX8_cut_101 : decode cX8_cut 101 = .ok (.getfield 139, 3) := by decide +kernel
theorem dX8_cut_104 : decode cX8_cut 104 = .ok (.ireturn, 1) := by decide +kernel
theorem dX8_cut_105 : decode cX8_cut 105 = .ok (.aload 4, 2) := by decide +kernel
theorem dX8_cut_107 : decode cX8_cut 107 = .ok (.getfield 142, 3) := by decide +kernel
theorem dX8_cut_110 : decode cX8_cut 110 = .ok (.ireturn, 1) := by decide +kernel
theorem dX8_cut_111 : decode cX8_cut 111 = .ok (.new 145, 3) := by decide +kernel
theorem dX8_cut_114 : decode cX8_cut 114 = .ok (.dup, 1) := by decide +kernel
theorem dX8_cut_115 : decode cX8_cut 115 = .ok (.ldc 147, 2) := by decide +kernel
theorem dX8_cut_117 : decode cX8_cut 117 = .ok (.invokespecial 149, 3) := by decide +kernel
theorem dX8_cut_120 : decode cX8_cut 120 = .ok (.athrow, 1) := by decide +kernel
theorem dX8_proof_0 : decode cX8_proof 0 = .ok (.aload_n 0, 1) := by decide +kernel
theorem dX8_proof_1 : decode cX8_proof 1 = .ok (.getfield 21, 3) := by decide +kernel
theorem dX8_proof_4 : decode cX8_proof 4 = .ok (.iload_n 1, 1) := by decide +kernel
theorem dX8_proof_5 : decode cX8_proof 5 = .ok (.invokevirtual 115, 3) := by decide +kernel
theorem dX8_proof_8 : decode cX8_proof 8 = .ok (.ifCond .ne 5, 3) := by decide +kernel
theorem dX8_proof_11 : decode cX8_proof 11 = .ok (.iconst (-1), 1) := by decide +kernel
theorem dX8_proof_12 : decode cX8_proof 12 = .ok (.ireturn, 1) := by decide +kernel
theorem dX8_proof_13 : decode cX8_proof 13 = .ok (.aload_n 0, 1) := by decide +kernel
theorem dX8_proof_14 : decode cX8_proof 14 = .ok (.getfield 21, 3) := by decide +kernel
theorem dX8_proof_17 : decode cX8_proof 17 = .ok (.getfield 125, 3) := by decide +kernel
theorem dX8_proof_20 : decode cX8_proof 20 = .ok (.iload_n 1, 1) := by decide +kernel
theorem dX8_proof_21 : decode cX8_proof 21 = .ok (.aaload, 1) := by decide +kernel
theorem dX8_proof_22 : decode cX8_proof 22 = .ok (.astore 4, 2) := by decide +kernel
theorem dX8_proof_24 : decode cX8_proof 24 = .ok (.aload_n 0, 1) := by decide +kernel
theorem dX8_proof_25 : decode cX8_proof 25 = .ok (.aload 4, 2) := by decide +kernel
theorem dX8_proof_27 : decode cX8_proof 27 = .ok (.iload_n 2, 1) := by decide +kernel
theorem dX8_proof_28 : decode cX8_proof 28 = .ok (.iload_n 3, 1) := by decide +kernel
theorem dX8_proof_29 : decode cX8_proof 29 = .ok (.invokevirtual 150, 3) := by decide +kernel
theorem dX8_proof_32 : decode cX8_proof 32 = .ok (.istore 5, 2) := by decide +kernel
theorem dX8_proof_34 : decode cX8_proof 34 = .ok (.iload 5, 2) := by decide +kernel
theorem dX8_proof_36 : decode cX8_proof 36 = .ok (.ifCond .ne 13, 3) := by decide +kernel
theorem dX8_proof_39 : decode cX8_proof 39 = .ok (.aload 4, 2) := by decide +kernel
theorem dX8_proof_41 : decode cX8_proof 41 = .ok (.iload_n 2, 1) := by decide +kernel
theorem dX8_proof_42 : decode cX8_proof 42 = .ok (.iload_n 3, 1) := by decide +kernel
theorem dX8_proof_43 : decode cX8_proof 43 = .ok (.invokevirtual 154, 3) := by decide +kernel
theorem dX8_proof_46 : decode cX8_proof 46 = .ok (.goto 5, 3) := by decide +kernel
theorem dX8_proof_49 : decode cX8_proof 49 = .ok (.iload 5, 2) := by decide +kernel
theorem dX8_proof_51 : decode cX8_proof 51 = .ok (.ireturn, 1) := by decide +kernel
theorem dX8_plant_0 : decode cX8_plant 0 = .ok (.aload_n 0, 1) := by decide +kernel
theorem dX8_plant_1 : decode cX8_plant 1 = .ok (.getfield 21, 3) := by decide +kernel
theorem dX8_plant_4 : decode cX8_plant 4 = .ok (.iload_n 1, 1) := by decide +kernel
theorem dX8_plant_5 : decode cX8_plant 5 = .ok (.invokevirtual 115, 3) := by decide +kernel
theorem dX8_plant_8 : decode cX8_plant 8 = .ok (.ifCond .ne 5, 3) := by decide +kernel
theorem dX8_plant_11 : decode cX8_plant 11 = .ok (.iconst (-1), 1) := by decide +kernel
theorem dX8_plant_12 : decode cX8_plant 12 = .ok (.ireturn, 1) := by decide +kernel
theorem dX8_plant_13 : decode cX8_plant 13 = .ok (.aload_n 0, 1) := by decide +kernel
theorem dX8_plant_14 : decode cX8_plant 14 = .ok (.getfield 21, 3) := by decide +kernel
theorem dX8_plant_17 : decode cX8_plant 17 = .ok (.getfield 125, 3) := by decide +kernel
theorem dX8_plant_20 : decode cX8_plant 20 = .ok (.iload_n 1, 1) := by decide +kernel
theorem dX8_plant_21 : decode cX8_plant 21 = .ok (.aaload, 1) := by decide +kernel
theorem dX8_plant_22 : decode cX8_plant 22 = .ok (.astore 5, 2) := by decide +kernel
theorem dX8_plant_24 : decode cX8_plant 24 = .ok (.aload_n 0, 1) := by decide +kernel
theorem dX8_plant_25 : decode cX8_plant 25 = .ok (.aload 5, 2) := by decide +kernel
theorem dX8_plant_27 : decode cX8_plant 27 = .ok (.iload_n 2, 1) := by decide +kernel
theorem dX8_plant_28 : decode cX8_plant 28 = .ok (.iload_n 3, 1) := by decide +kernel
theorem dX8_plant_29 : decode cX8_plant 29 = .ok (.invokevirtual 157, 3) := by decide +kernel
theorem dX8_plant_32 : decode cX8_plant 32 = .ok (.istore 6, 2) := by decide +kernel
theorem dX8_plant_34 : decode cX8_plant 34 = .ok (.iload 6, 2) := by decide +kernel
theorem dX8_plant_36 : decode cX8_plant 36 = .ok (.ifCond .eq 6, 3) := by decide +kernel
theorem dX8_plant_39 : decode cX8_plant 39 = .ok (.iload 6, 2) := by decide +kernel
theorem dX8_plant_41 : decode cX8_plant 41 = .ok (.ireturn, 1) := by decide +kernel
theorem dX8_plant_42 : decode cX8_plant 42 = .ok (.iload 4, 2) := by decide +kernel
theorem dX8_plant_44 : decode cX8_plant 44 = .ok (.sipush 1000, 3) := by decide +kernel
theorem dX8_plant_47 : decode cX8_plant 47 = .ok (.invokestatic 62, 3) := by decide +kernel
theorem dX8_plant_50 : decode cX8_plant 50 = .ok (.ifCond .eq 6, 3) := by decide +kernel
theorem dX8_plant_53 : decode cX8_plant 53 = .ok (.bipush (-2), 2) := by decide +kernel
theorem dX8_plant_55 : decode cX8_plant 55 = .ok (.ireturn, 1) := by decide +kernel
theorem dX8_plant_56 : decode cX8_plant 56 = .ok (.iload_n 2, 1) := by decide +kernel
theorem dX8_plant_57 : decode cX8_plant 57 = .ok (.lookupswitch 49 #[(0, 27), (1, 39)], 27) := by decide +kernel
theorem dX8_plant_84 : decode cX8_plant 84 = .ok (.aload 5, 2) := by decide +kernel
theorem dX8_plant_86 : decode cX8_plant 86 = .ok (.getfield 131, 3) := by decide +kernel
theorem dX8_plant_89 : decode cX8_plant 89 = .ok (.iload_n 3, 1) := by decide +kernel
theorem dX8_plant_90 : decode cX8_plant 90 = .ok (.iload 4, 2) := by decide +kernel
theorem dX8_plant_92 : decode cX8_plant 92 = .ok (.iastore, 1) := by decide +kernel
theorem dX8_plant_93 : decode cX8_plant 93 = .ok (.goto 24, 3) := by decide +kernel
theorem dX8_plant_96 : decode cX8_plant 96 = .ok (.aload 5, 2) := by decide +kernel
theorem dX8_plant_98 : decode cX8_plant 98 = .ok (.iload 4, 2) := by decide +kernel
theorem dX8_plant_100 : decode cX8_plant 100 = .ok (.putfield 136, 3) := by decide +kernel
theorem dX8_plant_103 : decode cX8_plant 103 = .ok (.goto 14, 3) := by decide +kernel
theorem dX8_plant_106 : decode cX8_plant 106 = .ok (.aload 5, 2) := by decide +kernel
theorem dX8_plant_108 : decode cX8_plant 108 = .ok (.iload_n 2, 1) := by decide +kernel
theorem dX8_plant_109 : decode cX8_plant 109 = .ok (.iconst 2, 1) := by decide +kernel
theorem dX8_plant_110 : decode cX8_plant 110 = .ok (.isub, 1) := by decide +kernel
theorem dX8_plant_111 : decode cX8_plant 111 = .ok (.iload_n 3, 1) := by decide +kernel
theorem dX8_plant_112 : decode cX8_plant 112 = .ok (.iload 4, 2) := by decide +kernel
theorem dX8_plant_114 : decode cX8_plant 114 = .ok (.invokevirtual 160, 3) := by decide +kernel
theorem dX8_plant_117 : decode cX8_plant 117 = .ok (.iconst 1, 1) := by decide +kernel
theorem dX8_plant_118 : decode cX8_plant 118 = .ok (.ireturn, 1) := by decide +kernel
theorem dX8_check_0 : decode cX8_check 0 = .ok (.aload_n 0, 1) := by decide +kernel
theorem dX8_check_1 : decode cX8_check 1 = .ok (.getfield 21, 3) := by decide +kernel
theorem dX8_check_4 : decode cX8_check 4 = .ok (.iload_n 1, 1) := by decide +kernel
theorem dX8_check_5 : decode cX8_check 5 = .ok (.invokevirtual 115, 3) := by decide +kernel
theorem dX8_check_8 : decode cX8_check 8 = .ok (.ifCond .ne 5, 3) := by decide +kernel
theorem dX8_check_11 : decode cX8_check 11 = .ok (.iconst (-1), 1) := by decide +kernel
theorem dX8_check_12 : decode cX8_check 12 = .ok (.ireturn, 1) := by decide +kernel
theorem dX8_check_13 : decode cX8_check 13 = .ok (.aload_n 0, 1) := by decide +kernel
theorem dX8_check_14 : decode cX8_check 14 = .ok (.getfield 51, 3) := by decide +kernel
theorem dX8_check_17 : decode cX8_check 17 = .ok (.aload_n 0, 1) := by decide +kernel
theorem dX8_check_18 : decode cX8_check 18 = .ok (.getfield 21, 3) := by decide +kernel
theorem dX8_check_21 : decode cX8_check 21 = .ok (.getfield 125, 3) := by decide +kernel
theorem dX8_check_24 : decode cX8_check 24 = .ok (.iload_n 1, 1) := by decide +kernel
theorem dX8_check_25 : decode cX8_check 25 = .ok (.aaload, 1) := by decide +kernel
theorem dX8_check_26 : decode cX8_check 26 = .ok (.invokevirtual 164, 3) := by decide +kernel
theorem dX8_check_29 : decode cX8_check 29 = .ok (.ifCond .eq 7, 3) := by decide +kernel
theorem dX8_check_32 : decode cX8_check 32 = .ok (.iconst 1, 1) := by decide +kernel
theorem dX8_check_33 : decode cX8_check 33 = .ok (.goto 4, 3) := by decide +kernel
theorem dX8_check_36 : decode cX8_check 36 = .ok (.iconst 0, 1) := by decide +kernel
theorem dX8_check_37 : decode cX8_check 37 = .ok (.ireturn, 1) := by decide +kernel
theorem dX8_strength_0 : decode cX8_strength 0 = .ok (.aload_n 0, 1) := by decide +kernel
theorem dX8_strength_1 : decode cX8_strength 1 = .ok (.getfield 21, 3) := by decide +kernel
theorem dX8_strength_4 : decode cX8_strength 4 = .ok (.iload_n 1, 1) := by decide +kernel
theorem dX8_strength_5 : decode cX8_strength 5 = .ok (.invokevirtual 115, 3) := by decide +kernel
theorem dX8_strength_8 : decode cX8_strength 8 = .ok (.ifCond .ne 13, 3) := by decide +kernel
theorem dX8_strength_11 : decode cX8_strength 11 = .ok (.new 118, 3) := by decide +kernel
theorem dX8_strength_14 : decode cX8_strength 14 = .ok (.dup, 1) := by decide +kernel
theorem dX8_strength_15 : decode cX8_strength 15 = .ok (.ldc 120, 2) := by decide +kernel
theorem dX8_strength_17 : decode cX8_strength 17 = .ok (.invokespecial 122, 3) := by decide +kernel
theorem dX8_strength_20 : decode cX8_strength 20 = .ok (.athrow, 1) := by decide +kernel
theorem dX8_strength_21 : decode cX8_strength 21 = .ok (.iload_n 2, 1) := by decide +kernel
theorem dX8_strength_22 : decode cX8_strength 22 = .ok (.ifCond .eq 18, 3) := by decide +kernel
theorem dX8_strength_25 : decode cX8_strength 25 = .ok (.iload_n 2, 1) := by decide +kernel
theorem dX8_strength_26 : decode cX8_strength 26 = .ok (.iconst 1, 1) := by decide +kernel
theorem dX8_strength_27 : decode cX8_strength 27 = .ok (.if_icmp .eq 13, 3) := by decide +kernel
theorem dX8_strength_30 : decode cX8_strength 30 = .ok (.new 145, 3) := by decide +kernel
theorem dX8_strength_33 : decode cX8_strength 33 = .ok (.dup, 1) := by decide +kernel
theorem dX8_strength_34 : decode cX8_strength 34 = .ok (.ldc 168, 2) := by decide +kernel
theorem dX8_strength_36 : decode cX8_strength 36 = .ok (.invokespecial 149, 3) := by decide +kernel
theorem dX8_strength_39 : decode cX8_strength 39 = .ok (.athrow, 1) := by decide +kernel
theorem dX8_strength_40 : decode cX8_strength 40 = .ok (.aload_n 0, 1) := by decide +kernel
theorem dX8_strength_41 : decode cX8_strength 41 = .ok (.getfield 10, 3) := by decide +kernel
theorem dX8_strength_44 : decode cX8_strength 44 = .ok (.aload_n 0, 1) := by decide +kernel
theorem dX8_strength_45 : decode cX8_strength 45 = .ok (.getfield 21, 3) := by decide +kernel
theorem dX8_strength_48 : decode cX8_strength 48 = .ok (.getfield 125, 3) := by decide +kernel
theorem dX8_strength_51 : decode cX8_strength 51 = .ok (.iload_n 1, 1) := by decide +kernel
theorem dX8_strength_52 : decode cX8_strength 52 = .ok (.aaload, 1) := by decide +kernel
theorem dX8_strength_53 : decode cX8_strength 53 = .ok (.invokevirtual 170, 3) := by decide +kernel
theorem dX8_strength_56 : decode cX8_strength 56 = .ok (.lstore_n 3, 1) := by decide +kernel
theorem dX8_strength_57 : decode cX8_strength 57 = .ok (.lload_n 3, 1) := by decide +kernel
theorem dX8_strength_58 : decode cX8_strength 58 = .ok (.invokestatic 174, 3) := by decide +kernel
theorem dX8_strength_61 : decode cX8_strength 61 = .ok (.lstore 5, 2) := by decide +kernel
theorem dX8_strength_63 : decode cX8_strength 63 = .ok (.iload_n 2, 1) := by decide +kernel
theorem dX8_strength_64 : decode cX8_strength 64 = .ok (.ifCond .ne 10, 3) := by decide +kernel
theorem dX8_strength_67 : decode cX8_strength 67 = .ok (.lload_n 3, 1) := by decide +kernel
theorem dX8_strength_68 : decode cX8_strength 68 = .ok (.lload 5, 2) := by decide +kernel
theorem dX8_strength_70 : decode cX8_strength 70 = .ok (.ldiv, 1) := by decide +kernel
theorem dX8_strength_71 : decode cX8_strength 71 = .ok (.goto 9, 3) := by decide +kernel
theorem dX8_strength_74 : decode cX8_strength 74 = .ok (.ldc2_w 178, 3) := by decide +kernel
theorem dX8_strength_77 : decode cX8_strength 77 = .ok (.lload 5, 2) := by decide +kernel
theorem dX8_strength_79 : decode cX8_strength 79 = .ok (.ldiv, 1) := by decide +kernel
theorem dX8_strength_80 : decode cX8_strength 80 = .ok (.lreturn, 1) := by decide +kernel
theorem dX8_best_0 : decode cX8_best 0 = .ok (.iconst (-1), 1) := by decide +kernel
theorem dX8_best_1 : decode cX8_best 1 = .ok (.istore_n 1, 1) := by decide +kernel
theorem dX8_best_2 : decode cX8_best 2 = .ok (.lconst 0, 1) := by decide +kernel
theorem dX8_best_3 : decode cX8_best 3 = .ok (.lstore_n 2, 1) := by decide +kernel
theorem dX8_best_4 : decode cX8_best 4 = .ok (.iconst 0, 1) := by decide +kernel
theorem dX8_best_5 : decode cX8_best 5 = .ok (.istore 4, 2) := by decide +kernel
theorem dX8_best_7 : decode cX8_best 7 = .ok (.iload 4, 2) := by decide +kernel
theorem dX8_best_9 : decode cX8_best 9 = .ok (.aload_n 0, 1) := by decide +kernel
theorem dX8_best_10 : decode cX8_best 10 = .ok (.getfield 21, 3) := by decide +kernel
theorem dX8_best_13 : decode cX8_best 13 = .ok (.getfield 70, 3) := by decide +kernel
theorem dX8_best_16 : decode cX8_best 16 = .ok (.if_icmp .ge 46, 3) := by decide +kernel
theorem dX8_best_19 : decode cX8_best 19 = .ok (.aload_n 0, 1) := by decide +kernel
theorem dX8_best_20 : decode cX8_best 20 = .ok (.getfield 10, 3) := by decide +kernel
theorem dX8_best_23 : decode cX8_best 23 = .ok (.aload_n 0, 1) := by decide +kernel
theorem dX8_best_24 : decode cX8_best 24 = .ok (.getfield 21, 3) := by decide +kernel
theorem dX8_best_27 : decode cX8_best 27 = .ok (.getfield 125, 3) := by decide +kernel
theorem dX8_best_30 : decode cX8_best 30 = .ok (.iload 4, 2) := by decide +kernel
theorem dX8_best_32 : decode cX8_best 32 = .ok (.aaload, 1) := by decide +kernel
theorem dX8_best_33 : decode cX8_best 33 = .ok (.invokevirtual 170, 3) := by decide +kernel
theorem dX8_best_36 : decode cX8_best 36 = .ok (.lstore 5, 2) := by decide +kernel
theorem dX8_best_38 : decode cX8_best 38 = .ok (.iload_n 1, 1) := by decide +kernel
theorem dX8_best_39 : decode cX8_best 39 = .ok (.iconst (-1), 1) := by decide +kernel
theorem dX8_best_40 : decode cX8_best 40 = .ok (.if_icmp .eq 10, 3) := by decide +kernel
theorem dX8_best_43 : decode cX8_best 43 = .ok (.lload 5, 2) := by decide +kernel
theorem dX8_best_45 : decode cX8_best 45 = .ok (.lload_n 2, 1) := by decide +kernel
theorem dX8_best_46 : decode cX8_best 46 = .ok (.lcmp, 1) := by decide +kernel
theorem dX8_best_47 : decode cX8_best 47 = .ok (.ifCond .le 9, 3) := by decide +kernel
theorem dX8_best_50 : decode cX8_best 50 = .ok (.iload 4, 2) := by decide +kernel
theorem dX8_best_52 : decode cX8_best 52 = .ok (.istore_n 1, 1) := by decide +kernel
theorem dX8_best_53 : decode cX8_best 53 = .ok (.lload 5, 2) := by decide +kernel
theorem dX8_best_55 : decode cX8_best 55 = .ok (.lstore_n 2, 1) := by decide +kernel
theorem dX8_best_56 : decode cX8_best 56 = .ok (.iinc 4 1, 3) := by decide +kernel
theorem dX8_best_59 : decode cX8_best 59 = .ok (.goto (-52), 3) := by decide +kernel
theorem dX8_best_62 : decode cX8_best 62 = .ok (.iload_n 1, 1) := by decide +kernel
theorem dX8_best_63 : decode cX8_best 63 = .ok (.ireturn, 1) := by decide +kernel
theorem dX8_holds_0 : decode cX8_holds 0 = .ok (.aload_n 0, 1) := by decide +kernel
theorem dX8_holds_1 : decode cX8_holds 1 = .ok (.getfield 21, 3) := by decide +kernel
theorem dX8_holds_4 : decode cX8_holds 4 = .ok (.iload_n 1, 1) := by decide +kernel
theorem dX8_holds_5 : decode cX8_holds 5 = .ok (.invokevirtual 115, 3) := by decide +kernel
theorem dX8_holds_8 : decode cX8_holds 8 = .ok (.ifCond .ne 5, 3) := by decide +kernel
theorem dX8_holds_11 : decode cX8_holds 11 = .ok (.iconst (-1), 1) := by decide +kernel
theorem dX8_holds_12 : decode cX8_holds 12 = .ok (.ireturn, 1) := by decide +kernel
theorem dX8_holds_13 : decode cX8_holds 13 = .ok (.aload_n 0, 1) := by decide +kernel
theorem dX8_holds_14 : decode cX8_holds 14 = .ok (.getfield 10, 3) := by decide +kernel
theorem dX8_holds_17 : decode cX8_holds 17 = .ok (.invokevirtual 180, 3) := by decide +kernel
theorem dX8_holds_20 : decode cX8_holds 20 = .ok (.lstore_n 2, 1) := by decide +kernel
theorem dX8_holds_21 : decode cX8_holds 21 = .ok (.lload_n 2, 1) := by decide +kernel
theorem dX8_holds_22 : decode cX8_holds 22 = .ok (.ldc2_w 184, 3) := by decide +kernel
theorem dX8_holds_25 : decode cX8_holds 25 = .ok (.lcmp, 1) := by decide +kernel
theorem dX8_holds_26 : decode cX8_holds 26 = .ok (.ifCond .le 6, 3) := by decide +kernel
theorem dX8_holds_29 : decode cX8_holds 29 = .ok (.bipush (-4), 2) := by decide +kernel
theorem dX8_holds_31 : decode cX8_holds 31 = .ok (.ireturn, 1) := by decide +kernel
theorem dX8_holds_32 : decode cX8_holds 32 = .ok (.aload_n 0, 1) := by decide +kernel
theorem dX8_holds_33 : decode cX8_holds 33 = .ok (.getfield 21, 3) := by decide +kernel
theorem dX8_holds_36 : decode cX8_holds 36 = .ok (.getfield 125, 3) := by decide +kernel
theorem dX8_holds_39 : decode cX8_holds 39 = .ok (.iload_n 1, 1) := by decide +kernel
theorem dX8_holds_40 : decode cX8_holds 40 = .ok (.aaload, 1) := by decide +kernel
theorem dX8_holds_41 : decode cX8_holds 41 = .ok (.astore 4, 2) := by decide +kernel
theorem dX8_holds_43 : decode cX8_holds 43 = .ok (.aload_n 0, 1) := by decide +kernel
theorem dX8_holds_44 : decode cX8_holds 44 = .ok (.getfield 58, 3) := by decide +kernel
theorem dX8_holds_47 : decode cX8_holds 47 = .ok (.invokevirtual 186, 3) := by decide +kernel
theorem dX8_holds_50 : decode cX8_holds 50 = .ok (.iconst 0, 1) := by decide +kernel
theorem dX8_holds_51 : decode cX8_holds 51 = .ok (.istore 5, 2) := by decide +kernel
theorem dX8_holds_53 : decode cX8_holds 53 = .ok (.iload 5, 2) := by decide +kernel
theorem dX8_holds_55 : decode cX8_holds 55 = .ok (.i2l, 1) := by decide +kernel
theorem dX8_holds_56 : decode cX8_holds 56 = .ok (.lload_n 2, 1) := by decide +kernel
theorem dX8_holds_57 : decode cX8_holds 57 = .ok (.lcmp, 1) := by decide +kernel
theorem dX8_holds_58 : decode cX8_holds 58 = .ok (.ifCond .ge 40, 3) := by decide +kernel
theorem dX8_holds_61 : decode cX8_holds 61 = .ok (.aload_n 0, 1) := by decide +kernel
theorem dX8_holds_62 : decode cX8_holds 62 = .ok (.getfield 58, 3) := by decide +kernel
theorem dX8_holds_65 : decode cX8_holds 65 = .ok (.invokevirtual 189, 3) := by decide +kernel
theorem dX8_holds_68 : decode cX8_holds 68 = .ok (.ifCond .eq 17, 3) := by decide +kernel
theorem dX8_holds_71 : decode cX8_holds 71 = .ok (.aload_n 0, 1) := by decide +kernel
theorem dX8_holds_72 : decode cX8_holds 72 = .ok (.getfield 58, 3) := by decide +kernel
theorem dX8_holds_75 : decode cX8_holds 75 = .ok (.aload 4, 2) := by decide +kernel
theorem dX8_holds_77 : decode cX8_holds 77 = .ok (.invokevirtual 193, 3) := by decide +kernel
theorem dX8_holds_80 : decode cX8_holds 80 = .ok (.ifCond .ne 5, 3) := by decide +kernel
theorem dX8_holds_83 : decode cX8_holds 83 = .ok (.iconst 0, 1) := by decide +kernel
theorem dX8_holds_84 : decode cX8_holds 84 = .ok (.ireturn, 1) := by decide +kernel
theorem dX8_holds_85 : decode cX8_holds 85 = .ok (.aload_n 0, 1) := by decide +kernel
theorem dX8_holds_86 : decode cX8_holds 86 = .ok (.getfield 58, 3) := by decide +kernel
theorem dX8_holds_89 : decode cX8_holds 89 = .ok (.invokevirtual 196, 3) := by decide +kernel
theorem dX8_holds_92 : decode cX8_holds 92 = .ok (.iinc 5 1, 3) := by decide +kernel
theorem dX8_holds_95 : decode cX8_holds 95 = .ok (.goto (-42), 3) := by decide +kernel
theorem dX8_holds_98 : decode cX8_holds 98 = .ok (.iconst 1, 1) := by decide +kernel
theorem dX8_holds_99 : decode cX8_holds 99 = .ok (.ireturn, 1) := by decide +kernel
theorem dX8_plans_0 : decode cX8_plans 0 = .ok (.aload_n 0, 1) := by decide +kernel
theorem dX8_plans_1 : decode cX8_plans 1 = .ok (.getfield 10, 3) := by decide +kernel
theorem dX8_plans_4 : decode cX8_plans 4 = .ok (.invokevirtual 180, 3) := by decide +kernel
theorem dX8_plans_7 : decode cX8_plans 7 = .ok (.lstore_n 1, 1) := by decide +kernel
theorem dX8_plans_8 : decode cX8_plans 8 = .ok (.lload_n 1, 1) := by decide +kernel
theorem dX8_plans_9 : decode cX8_plans 9 = .ok (.ldc2_w 184, 3) := by decide +kernel
theorem dX8_plans_12 : decode cX8_plans 12 = .ok (.lcmp, 1) := by decide +kernel
theorem dX8_plans_13 : decode cX8_plans 13 = .ok (.ifCond .le 6, 3) := by decide +kernel
theorem dX8_plans_16 : decode cX8_plans 16 = .ok (.bipush (-4), 2) := by decide +kernel
theorem dX8_plans_18 : decode cX8_plans 18 = .ok (.ireturn, 1) := by decide +kernel
theorem dX8_plans_19 : decode cX8_plans 19 = .ok (.iconst 0, 1) := by decide +kernel
theorem dX8_plans_20 : decode cX8_plans 20 = .ok (.istore_n 3, 1) := by decide +kernel
theorem dX8_plans_21 : decode cX8_plans 21 = .ok (.aload_n 0, 1) := by decide +kernel
theorem dX8_plans_22 : decode cX8_plans 22 = .ok (.getfield 58, 3) := by decide +kernel
theorem dX8_plans_25 : decode cX8_plans 25 = .ok (.invokevirtual 186, 3) := by decide +kernel
theorem dX8_plans_28 : decode cX8_plans 28 = .ok (.iconst 0, 1) := by decide +kernel
theorem dX8_plans_29 : decode cX8_plans 29 = .ok (.istore 4, 2) := by decide +kernel
theorem dX8_plans_31 : decode cX8_plans 31 = .ok (.iload 4, 2) := by decide +kernel
theorem dX8_plans_33 : decode cX8_plans 33 = .ok (.i2l, 1) := by decide +kernel
theorem dX8_plans_34 : decode cX8_plans 34 = .ok (.lload_n 1, 1) := by decide +kernel
theorem dX8_plans_35 : decode cX8_plans 35 = .ok (.lcmp, 1) := by decide +kernel
theorem dX8_plans_36 : decode cX8_plans 36 = .ok (.ifCond .ge 29, 3) := by decide +kernel
theorem dX8_plans_39 : decode cX8_plans 39 = .ok (.aload_n 0, 1) := by decide +kernel
theorem dX8_plans_40 : decode cX8_plans 40 = .ok (.getfield 58, 3) := by decide +kernel
theorem dX8_plans_43 : decode cX8_plans 43 = .ok (.invokevirtual 189, 3) := by decide +kernel
theorem dX8_plans_46 : decode cX8_plans 46 = .ok (.ifCond .eq 6, 3) := by decide +kernel
theorem dX8_plans_49 : decode cX8_plans 49 = .ok (.iinc 3 1, 3) := by decide +kernel
theorem dX8_plans_52 : decode cX8_plans 52 = .ok (.aload_n 0, 1) := by decide +kernel
theorem dX8_plans_53 : decode cX8_plans 53 = .ok (.getfield 58, 3) := by decide +kernel
theorem dX8_plans_56 : decode cX8_plans 56 = .ok (.invokevirtual 196, 3) := by decide +kernel
theorem dX8_plans_59 : decode cX8_plans 59 = .ok (.iinc 4 1, 3) := by decide +kernel
theorem dX8_plans_62 : decode cX8_plans 62 = .ok (.goto (-31), 3) := by decide +kernel
theorem dX8_plans_65 : decode cX8_plans 65 = .ok (.iload_n 3, 1) := by decide +kernel
theorem dX8_plans_66 : decode cX8_plans 66 = .ok (.ireturn, 1) := by decide +kernel
theorem dX8_turn_0 : decode cX8_turn 0 = .ok (.aload_n 0, 1) := by decide +kernel
theorem dX8_turn_1 : decode cX8_turn 1 = .ok (.getfield 21, 3) := by decide +kernel
theorem dX8_turn_4 : decode cX8_turn 4 = .ok (.invokevirtual 199, 3) := by decide +kernel
theorem dX8_turn_7 : decode cX8_turn 7 = .ok (.ireturn, 1) := by decide +kernel
theorem dX8_told_0 : decode cX8_told 0 = .ok (.iload_n 1, 1) := by decide +kernel
theorem dX8_told_1 : decode cX8_told 1 = .ok (.tableswitch 69 0 4 #[35, 43, 51, 59, 64], 35) := by decide +kernel
theorem dX8_told_36 : decode cX8_told 36 = .ok (.aload_n 0, 1) := by decide +kernel
theorem dX8_told_37 : decode cX8_told 37 = .ok (.getfield 10, 3) := by decide +kernel
theorem dX8_told_40 : decode cX8_told 40 = .ok (.getfield 66, 3) := by decide +kernel
theorem dX8_told_43 : decode cX8_told 43 = .ok (.ireturn, 1) := by decide +kernel
theorem dX8_told_44 : decode cX8_told 44 = .ok (.aload_n 0, 1) := by decide +kernel
theorem dX8_told_45 : decode cX8_told 45 = .ok (.getfield 10, 3) := by decide +kernel
theorem dX8_told_48 : decode cX8_told 48 = .ok (.getfield 77, 3) := by decide +kernel
theorem dX8_told_51 : decode cX8_told 51 = .ok (.ireturn, 1) := by decide +kernel
theorem dX8_told_52 : decode cX8_told 52 = .ok (.aload_n 0, 1) := by decide +kernel
theorem dX8_told_53 : decode cX8_told 53 = .ok (.getfield 21, 3) := by decide +kernel
theorem dX8_told_56 : decode cX8_told 56 = .ok (.getfield 70, 3) := by decide +kernel
theorem dX8_told_59 : decode cX8_told 59 = .ok (.ireturn, 1) := by decide +kernel
theorem dX8_told_60 : decode cX8_told 60 = .ok (.aload_n 0, 1) := by decide +kernel
theorem dX8_told_61 : decode cX8_told 61 = .ok (.invokevirtual 203, 3) := by decide +kernel
theorem dX8_told_64 : decode cX8_told 64 = .ok (.ireturn, 1) := by decide +kernel
theorem dX8_told_65 : decode cX8_told 65 = .ok (.aload_n 0, 1) := by decide +kernel
theorem dX8_told_66 : decode cX8_told 66 = .ok (.invokevirtual 206, 3) := by decide +kernel
theorem dX8_told_69 : decode cX8_told 69 = .ok (.ireturn, 1) := by decide +kernel
theorem dX8_told_70 : decode cX8_told 70 = .ok (.bipush (-2), 2) := by decide +kernel
theorem dX8_told_72 : decode cX8_told 72 = .ok (.ireturn, 1) := by decide +kernel
theorem dX8_clear_0 : decode cX8_clear 0 = .ok (.aload_n 0, 1) := by decide +kernel
theorem dX8_clear_1 : decode cX8_clear 1 = .ok (.getfield 10, 3) := by decide +kernel
theorem dX8_clear_4 : decode cX8_clear 4 = .ok (.iconst 0, 1) := by decide +kernel
theorem dX8_clear_5 : decode cX8_clear 5 = .ok (.putfield 66, 3) := by decide +kernel
theorem dX8_clear_8 : decode cX8_clear 8 = .ok (.aload_n 0, 1) := by decide +kernel
theorem dX8_clear_9 : decode cX8_clear 9 = .ok (.getfield 10, 3) := by decide +kernel
theorem dX8_clear_12 : decode cX8_clear 12 = .ok (.iconst 0, 1) := by decide +kernel
theorem dX8_clear_13 : decode cX8_clear 13 = .ok (.putfield 77, 3) := by decide +kernel
theorem dX8_clear_16 : decode cX8_clear 16 = .ok (.aload_n 0, 1) := by decide +kernel
theorem dX8_clear_17 : decode cX8_clear 17 = .ok (.getfield 21, 3) := by decide +kernel
theorem dX8_clear_20 : decode cX8_clear 20 = .ok (.iconst 0, 1) := by decide +kernel
theorem dX8_clear_21 : decode cX8_clear 21 = .ok (.putfield 70, 3) := by decide +kernel
theorem dX8_clear_24 : decode cX8_clear 24 = .ok (.aload_n 0, 1) := by decide +kernel
theorem dX8_clear_25 : decode cX8_clear 25 = .ok (.getfield 21, 3) := by decide +kernel
theorem dX8_clear_28 : decode cX8_clear 28 = .ok (.iconst 1, 1) := by decide +kernel
theorem dX8_clear_29 : decode cX8_clear 29 = .ok (.putfield 99, 3) := by decide +kernel
theorem dX8_clear_32 : decode cX8_clear 32 = .ok (.return_, 1) := by decide +kernel
theorem dX8_countBroken_0 : decode cX8_countBroken 0 = .ok (.iconst 0, 1) := by decide +kernel
theorem dX8_countBroken_1 : decode cX8_countBroken 1 = .ok (.istore_n 1, 1) := by decide +kernel
theorem dX8_countBroken_2 : decode cX8_countBroken 2 = .ok (.iconst 0, 1) := by decide +kernel
theorem dX8_countBroken_3 : decode cX8_countBroken 3 = .ok (.istore_n 2, 1) := by decide +kernel
theorem dX8_countBroken_4 : decode cX8_countBroken 4 = .ok (.iload_n 2, 1) := by decide +kernel
theorem dX8_countBroken_5 : decode cX8_countBroken 5 = .ok (.aload_n 0, 1) := by decide +kernel
theorem dX8_countBroken_6 : decode cX8_countBroken 6 = .ok (.getfield 21, 3) := by decide +kernel
theorem dX8_countBroken_9 : decode cX8_countBroken 9 = .ok (.getfield 70, 3) := by decide +kernel
theorem dX8_countBroken_12 : decode cX8_countBroken 12 = .ok (.if_icmp .ge 33, 3) := by decide +kernel
theorem dX8_countBroken_15 : decode cX8_countBroken 15 = .ok (.aload_n 0, 1) := by decide +kernel
theorem dX8_countBroken_16 : decode cX8_countBroken 16 = .ok (.getfield 10, 3) := by decide +kernel
theorem dX8_countBroken_19 : decode cX8_countBroken 19 = .ok (.aload_n 0, 1) := by decide +kernel
theorem dX8_countBroken_20 : decode cX8_countBroken 20 = .ok (.getfield 21, 3) := by decide +kernel
theorem dX8_countBroken_23 : decode cX8_countBroken 23 = .ok (.getfield 125, 3) := by decide +kernel
theorem dX8_countBroken_26 : decode cX8_countBroken 26 = .ok (.iload_n 2, 1) := by decide +kernel
theorem dX8_countBroken_27 : decode cX8_countBroken 27 = .ok (.aaload, 1) := by decide +kernel
theorem dX8_countBroken_28 : decode cX8_countBroken 28 = .ok (.invokevirtual 170, 3) := by decide +kernel
theorem dX8_countBroken_31 : decode cX8_countBroken 31 = .ok (.lconst 0, 1) := by decide +kernel
theorem dX8_countBroken_32 : decode cX8_countBroken 32 = .ok (.lcmp, 1) := by decide +kernel
theorem dX8_countBroken_33 : decode cX8_countBroken 33 = .ok (.ifCond .le 6, 3) := by decide +kernel
theorem dX8_countBroken_36 : decode cX8_countBroken 36 = .ok (.iinc 1 1, 3) := by decide +kernel
theorem dX8_countBroken_39 : decode cX8_countBroken 39 = .ok (.iinc 2 1, 3) := by decide +kernel
theorem dX8_countBroken_42 : decode cX8_countBroken 42 = .ok (.goto (-38), 3) := by decide +kernel
theorem dX8_countBroken_45 : decode cX8_countBroken 45 = .ok (.iload_n 1, 1) := by decide +kernel
theorem dX8_countBroken_46 : decode cX8_countBroken 46 = .ok (.ireturn, 1) := by decide +kernel
theorem dX8_countAccepted_0 : decode cX8_countAccepted 0 = .ok (.iconst 0, 1) := by decide +kernel
theorem dX8_countAccepted_1 : decode cX8_countAccepted 1 = .ok (.istore_n 1, 1) := by decide +kernel
theorem dX8_countAccepted_2 : decode cX8_countAccepted 2 = .ok (.iconst 0, 1) := by decide +kernel
theorem dX8_countAccepted_3 : decode cX8_countAccepted 3 = .ok (.istore_n 2, 1) := by decide +kernel
theorem dX8_countAccepted_4 : decode cX8_countAccepted 4 = .ok (.iload_n 2, 1) := by decide +kernel
theorem dX8_countAccepted_5 : decode cX8_countAccepted 5 = .ok (.aload_n 0, 1) := by decide +kernel
theorem dX8_countAccepted_6 : decode cX8_countAccepted 6 = .ok (.getfield 21, 3) := by decide +kernel
theorem dX8_countAccepted_9 : decode cX8_countAccepted 9 = .ok (.getfield 70, 3) := by decide +kernel
theorem dX8_countAccepted_12 : decode cX8_countAccepted 12 = .ok (.if_icmp .ge 31, 3) := by decide +kernel
theorem dX8_countAccepted_15 : decode cX8_countAccepted 15 = .ok (.aload_n 0, 1) := by decide +kernel
theorem dX8_countAccepted_16 : decode cX8_countAccepted 16 = .ok (.getfield 51, 3) := by decide +kernel
theorem dX8_countAccepted_19 : decode cX8_countAccepted 19 = .ok (.aload_n 0, 1) := by decide +kernel
theorem dX8_countAccepted_20 : decode cX8_countAccepted 20 = .ok (.getfield 21, 3) := by decide +kernel
theorem dX8_countAccepted_23 : decode cX8_countAccepted 23 = .ok (.getfield 125, 3) := by decide +kernel
theorem dX8_countAccepted_26 : decode cX8_countAccepted 26 = .ok (.iload_n 2, 1) := by decide +kernel
theorem dX8_countAccepted_27 : decode cX8_countAccepted 27 = .ok (.aaload, 1) := by decide +kernel
theorem dX8_countAccepted_28 : decode cX8_countAccepted 28 = .ok (.invokevirtual 164, 3) := by decide +kernel
theorem dX8_countAccepted_31 : decode cX8_countAccepted 31 = .ok (.ifCond .eq 6, 3) := by decide +kernel
theorem dX8_countAccepted_34 : decode cX8_countAccepted 34 = .ok (.iinc 1 1, 3) := by decide +kernel
theorem dX8_countAccepted_37 : decode cX8_countAccepted 37 = .ok (.iinc 2 1, 3) := by decide +kernel
theorem dX8_countAccepted_40 : decode cX8_countAccepted 40 = .ok (.goto (-36), 3) := by decide +kernel
theorem dX8_countAccepted_43 : decode cX8_countAccepted 43 = .ok (.iload_n 1, 1) := by decide +kernel
theorem dX8_countAccepted_44 : decode cX8_countAccepted 44 = .ok (.ireturn, 1) := by decide +kernel
theorem dX8_refusalOfPlanted_0 : decode cX8_refusalOfPlanted 0 = .ok (.iload_n 2, 1) := by decide +kernel
theorem dX8_refusalOfPlanted_1 : decode cX8_refusalOfPlanted 1 = .ok (.tableswitch 77 0 5 #[39, 56, 67, 67, 67, 67], 39) := by decide +kernel
theorem dX8_refusalOfPlanted_40 : decode cX8_refusalOfPlanted 40 = .ok (.aload_n 0, 1) := by decide +kernel
theorem dX8_refusalOfPlanted_41 : decode cX8_refusalOfPlanted 41 = .ok (.getfield 10, 3) := by decide +kernel
theorem dX8_refusalOfPlanted_44 : decode cX8_refusalOfPlanted 44 = .ok (.iload_n 3, 1) := by decide +kernel
theorem dX8_refusalOfPlanted_45 : decode cX8_refusalOfPlanted 45 = .ok (.invokevirtual 88, 3) := by decide +kernel
theorem dX8_refusalOfPlanted_48 : decode cX8_refusalOfPlanted 48 = .ok (.ifCond .eq 7, 3) := by decide +kernel
theorem dX8_refusalOfPlanted_51 : decode cX8_refusalOfPlanted 51 = .ok (.iconst 0, 1) := by decide +kernel
theorem dX8_refusalOfPlanted_52 : decode cX8_refusalOfPlanted 52 = .ok (.goto 4, 3) := by decide +kernel
theorem dX8_refusalOfPlanted_55 : decode cX8_refusalOfPlanted 55 = .ok (.iconst (-1), 1) := by decide +kernel
theorem dX8_refusalOfPlanted_56 : decode cX8_refusalOfPlanted 56 = .ok (.ireturn, 1) := by decide +kernel
theorem dX8_refusalOfPlanted_57 : decode cX8_refusalOfPlanted 57 = .ok (.iload_n 3, 1) := by decide +kernel
theorem dX8_refusalOfPlanted_58 : decode cX8_refusalOfPlanted 58 = .ok (.ifCond .ne 7, 3) := by decide +kernel
theorem dX8_refusalOfPlanted_61 : decode cX8_refusalOfPlanted 61 = .ok (.iconst 0, 1) := by decide +kernel
theorem dX8_refusalOfPlanted_62 : decode cX8_refusalOfPlanted 62 = .ok (.goto 5, 3) := by decide +kernel
theorem dX8_refusalOfPlanted_65 : decode cX8_refusalOfPlanted 65 = .ok (.bipush (-2), 2) := by decide +kernel
theorem dX8_refusalOfPlanted_67 : decode cX8_refusalOfPlanted 67 = .ok (.ireturn, 1) := by decide +kernel
theorem dX8_refusalOfPlanted_68 : decode cX8_refusalOfPlanted 68 = .ok (.aload_n 0, 1) := by decide +kernel
theorem dX8_refusalOfPlanted_69 : decode cX8_refusalOfPlanted 69 = .ok (.aload_n 1, 1) := by decide +kernel
theorem dX8_refusalOfPlanted_70 : decode cX8_refusalOfPlanted 70 = .ok (.iload_n 2, 1) := by decide +kernel
theorem dX8_refusalOfPlanted_71 : decode cX8_refusalOfPlanted 71 = .ok (.iconst 2, 1) := by decide +kernel
theorem dX8_refusalOfPlanted_72 : decode cX8_refusalOfPlanted 72 = .ok (.isub, 1) := by decide +kernel
theorem dX8_refusalOfPlanted_73 : decode cX8_refusalOfPlanted 73 = .ok (.iload_n 3, 1) := by decide +kernel
theorem dX8_refusalOfPlanted_74 : decode cX8_refusalOfPlanted 74 = .ok (.invokevirtual 150, 3) := by decide +kernel
theorem dX8_refusalOfPlanted_77 : decode cX8_refusalOfPlanted 77 = .ok (.ireturn, 1) := by decide +kernel
theorem dX8_refusalOfPlanted_78 : decode cX8_refusalOfPlanted 78 = .ok (.bipush (-2), 2) := by decide +kernel
theorem dX8_refusalOfPlanted_80 : decode cX8_refusalOfPlanted 80 = .ok (.ireturn, 1) := by decide +kernel
theorem dX8_refusalOfShown_0 : decode cX8_refusalOfShown 0 = .ok (.iload_n 2, 1) := by decide +kernel
theorem dX8_refusalOfShown_1 : decode cX8_refusalOfShown 1 = .ok (.ifCond .lt 8, 3) := by decide +kernel
theorem dX8_refusalOfShown_4 : decode cX8_refusalOfShown 4 = .ok (.iload_n 2, 1) := by decide +kernel
theorem dX8_refusalOfShown_5 : decode cX8_refusalOfShown 5 = .ok (.iconst 3, 1) := by decide +kernel
theorem dX8_refusalOfShown_6 : decode cX8_refusalOfShown 6 = .ok (.if_icmp .le 6, 3) := by decide +kernel
theorem dX8_refusalOfShown_9 : decode cX8_refusalOfShown 9 = .ok (.bipush (-2), 2) := by decide +kernel
theorem dX8_refusalOfShown_11 : decode cX8_refusalOfShown 11 = .ok (.ireturn, 1) := by decide +kernel
theorem dX8_refusalOfShown_12 : decode cX8_refusalOfShown 12 = .ok (.aload_n 1, 1) := by decide +kernel
theorem dX8_refusalOfShown_13 : decode cX8_refusalOfShown 13 = .ok (.getfield 139, 3) := by decide +kernel
theorem dX8_refusalOfShown_16 : decode cX8_refusalOfShown 16 = .ok (.iconst 3, 1) := by decide +kernel
theorem dX8_refusalOfShown_17 : decode cX8_refusalOfShown 17 = .ok (.if_icmp .ne 5, 3) := by decide +kernel
theorem dX8_refusalOfShown_20 : decode cX8_refusalOfShown 20 = .ok (.iconst (-1), 1) := by decide +kernel
theorem dX8_refusalOfShown_21 : decode cX8_refusalOfShown 21 = .ok (.ireturn, 1) := by decide +kernel
theorem dX8_refusalOfShown_22 : decode cX8_refusalOfShown 22 = .ok (.aload_n 1, 1) := by decide +kernel
theorem dX8_refusalOfShown_23 : decode cX8_refusalOfShown 23 = .ok (.getfield 139, 3) := by decide +kernel
theorem dX8_refusalOfShown_26 : decode cX8_refusalOfShown 26 = .ok (.iconst 2, 1) := by decide +kernel
theorem dX8_refusalOfShown_27 : decode cX8_refusalOfShown 27 = .ok (.if_icmp .ne 9, 3) := by decide +kernel
theorem dX8_refusalOfShown_30 : decode cX8_refusalOfShown 30 = .ok (.iload_n 2, 1) := by decide +kernel
theorem dX8_refusalOfShown_31 : decode cX8_refusalOfShown 31 = .ok (.ifCond .eq 5, 3) := by decide +kernel
theorem dX8_refusalOfShown_34 : decode cX8_refusalOfShown 34 = .ok (.iconst (-1), 1) := by decide +kernel
theorem dX8_refusalOfShown_35 : decode cX8_refusalOfShown 35 = .ok (.ireturn, 1) := by decide +kernel
theorem dX8_refusalOfShown_36 : decode cX8_refusalOfShown 36 = .ok (.aload_n 1, 1) := by decide +kernel
theorem dX8_refusalOfShown_37 : decode cX8_refusalOfShown 37 = .ok (.getfield 139, 3) := by decide +kernel
theorem dX8_refusalOfShown_40 : decode cX8_refusalOfShown 40 = .ok (.iconst 2, 1) := by decide +kernel
theorem dX8_refusalOfShown_41 : decode cX8_refusalOfShown 41 = .ok (.if_icmp .eq 8, 3) := by decide +kernel
theorem dX8_refusalOfShown_44 : decode cX8_refusalOfShown 44 = .ok (.iload_n 2, 1) := by decide +kernel
theorem dX8_refusalOfShown_45 : decode cX8_refusalOfShown 45 = .ok (.iconst 3, 1) := by decide +kernel
theorem dX8_refusalOfShown_46 : decode cX8_refusalOfShown 46 = .ok (.if_icmp .ne 14, 3) := by decide +kernel
theorem dX8_refusalOfShown_49 : decode cX8_refusalOfShown 49 = .ok (.iload_n 3, 1) := by decide +kernel
theorem dX8_refusalOfShown_50 : decode cX8_refusalOfShown 50 = .ok (.ifCond .ne 7, 3) := by decide +kernel
theorem dX8_refusalOfShown_53 : decode cX8_refusalOfShown 53 = .ok (.iconst 0, 1) := by decide +kernel
theorem dX8_refusalOfShown_54 : decode cX8_refusalOfShown 54 = .ok (.goto 5, 3) := by decide +kernel
theorem dX8_refusalOfShown_57 : decode cX8_refusalOfShown 57 = .ok (.bipush (-2), 2) := by decide +kernel
theorem dX8_refusalOfShown_59 : decode cX8_refusalOfShown 59 = .ok (.ireturn, 1) := by decide +kernel
theorem dX8_refusalOfShown_60 : decode cX8_refusalOfShown 60 = .ok (.iload_n 2, 1) := by decide +kernel
theorem dX8_refusalOfShown_61 : decode cX8_refusalOfShown 61 = .ok (.ifCond .ne 14, 3) := by decide +kernel
theorem dX8_refusalOfShown_64 : decode cX8_refusalOfShown 64 = .ok (.aload_n 0, 1) := by decide +kernel
theorem dX8_refusalOfShown_65 : decode cX8_refusalOfShown 65 = .ok (.getfield 10, 3) := by decide +kernel
theorem dX8_refusalOfShown_68 : decode cX8_refusalOfShown 68 = .ok (.iload_n 3, 1) := by decide +kernel
theorem dX8_refusalOfShown_69 : decode cX8_refusalOfShown 69 = .ok (.invokevirtual 84, 3) := by decide +kernel
theorem dX8_refusalOfShown_72 : decode cX8_refusalOfShown 72 = .ok (.goto 11, 3) := by decide +kernel
theorem dX8_refusalOfShown_75 : decode cX8_refusalOfShown 75 = .ok (.aload_n 0, 1) := by decide +kernel
theorem dX8_refusalOfShown_76 : decode cX8_refusalOfShown 76 = .ok (.getfield 10, 3) := by decide +kernel
theorem dX8_refusalOfShown_79 : decode cX8_refusalOfShown 79 = .ok (.iload_n 3, 1) := by decide +kernel
theorem dX8_refusalOfShown_80 : decode cX8_refusalOfShown 80 = .ok (.invokevirtual 88, 3) := by decide +kernel
theorem dX8_refusalOfShown_83 : decode cX8_refusalOfShown 83 = .ok (.istore 4, 2) := by decide +kernel
theorem dX8_refusalOfShown_85 : decode cX8_refusalOfShown 85 = .ok (.iload 4, 2) := by decide +kernel
theorem dX8_refusalOfShown_87 : decode cX8_refusalOfShown 87 = .ok (.ifCond .eq 7, 3) := by decide +kernel
theorem dX8_refusalOfShown_90 : decode cX8_refusalOfShown 90 = .ok (.iconst 0, 1) := by decide +kernel
theorem dX8_refusalOfShown_91 : decode cX8_refusalOfShown 91 = .ok (.goto 4, 3) := by decide +kernel
theorem dX8_refusalOfShown_94 : decode cX8_refusalOfShown 94 = .ok (.iconst (-1), 1) := by decide +kernel
theorem dX8_refusalOfShown_95 : decode cX8_refusalOfShown 95 = .ok (.ireturn, 1) := by decide +kernel
theorem dX8_isBeyond_0 : decode cX8_isBeyond 0 = .ok (.iload_n 0, 1) := by decide +kernel
theorem dX8_isBeyond_1 : decode cX8_isBeyond 1 = .ok (.iload_n 1, 1) := by decide +kernel
theorem dX8_isBeyond_2 : decode cX8_isBeyond 2 = .ok (.ineg, 1) := by decide +kernel
theorem dX8_isBeyond_3 : decode cX8_isBeyond 3 = .ok (.if_icmp .lt 8, 3) := by decide +kernel
theorem dX8_isBeyond_6 : decode cX8_isBeyond 6 = .ok (.iload_n 0, 1) := by decide +kernel
theorem dX8_isBeyond_7 : decode cX8_isBeyond 7 = .ok (.iload_n 1, 1) := by decide +kernel
theorem dX8_isBeyond_8 : decode cX8_isBeyond 8 = .ok (.if_icmp .le 7, 3) := by decide +kernel
theorem dX8_isBeyond_11 : decode cX8_isBeyond 11 = .ok (.iconst 1, 1) := by decide +kernel
theorem dX8_isBeyond_12 : decode cX8_isBeyond 12 = .ok (.goto 4, 3) := by decide +kernel
theorem dX8_isBeyond_15 : decode cX8_isBeyond 15 = .ok (.iconst 0, 1) := by decide +kernel
theorem dX8_isBeyond_16 : decode cX8_isBeyond 16 = .ok (.ireturn, 1) := by decide +kernel
theorem dX8_commonWithScale_0 : decode cX8_commonWithScale 0 = .ok (.ldc2_w 178, 3) := by decide +kernel
theorem dX8_commonWithScale_3 : decode cX8_commonWithScale 3 = .ok (.lstore_n 2, 1) := by decide +kernel
theorem dX8_commonWithScale_4 : decode cX8_commonWithScale 4 = .ok (.lload_n 0, 1) := by decide +kernel
theorem dX8_commonWithScale_5 : decode cX8_commonWithScale 5 = .ok (.invokestatic 209, 3) := by decide +kernel
theorem dX8_commonWithScale_8 : decode cX8_commonWithScale 8 = .ok (.ldc2_w 178, 3) := by decide +kernel
theorem dX8_commonWithScale_11 : decode cX8_commonWithScale 11 = .ok (.lrem, 1) := by decide +kernel
theorem dX8_commonWithScale_12 : decode cX8_commonWithScale 12 = .ok (.lstore 4, 2) := by decide +kernel
theorem dX8_commonWithScale_14 : decode cX8_commonWithScale 14 = .ok (.iconst 0, 1) := by decide +kernel
theorem dX8_commonWithScale_15 : decode cX8_commonWithScale 15 = .ok (.istore 6, 2) := by decide +kernel
theorem dX8_commonWithScale_17 : decode cX8_commonWithScale 17 = .ok (.iload 6, 2) := by decide +kernel
theorem dX8_commonWithScale_19 : decode cX8_commonWithScale 19 = .ok (.bipush 100, 2) := by decide +kernel
theorem dX8_commonWithScale_21 : decode cX8_commonWithScale 21 = .ok (.if_icmp .ge 29, 3) := by decide +kernel
theorem dX8_commonWithScale_24 : decode cX8_commonWithScale 24 = .ok (.lload 4, 2) := by decide +kernel
theorem dX8_commonWithScale_26 : decode cX8_commonWithScale 26 = .ok (.lconst 0, 1) := by decide +kernel
theorem dX8_commonWithScale_27 : decode cX8_commonWithScale 27 = .ok (.lcmp, 1) := by decide +kernel
theorem dX8_commonWithScale_28 : decode cX8_commonWithScale 28 = .ok (.ifCond .eq 22, 3) := by decide +kernel
theorem dX8_commonWithScale_31 : decode cX8_commonWithScale 31 = .ok (.lload_n 2, 1) := by decide +kernel
theorem dX8_commonWithScale_32 : decode cX8_commonWithScale 32 = .ok (.lload 4, 2) := by decide +kernel
theorem dX8_commonWithScale_34 : decode cX8_commonWithScale 34 = .ok (.lrem, 1) := by decide +kernel
theorem dX8_commonWithScale_35 : decode cX8_commonWithScale 35 = .ok (.lstore 7, 2) := by decide +kernel
theorem dX8_commonWithScale_37 : decode cX8_commonWithScale 37 = .ok (.lload 4, 2) := by decide +kernel
theorem dX8_commonWithScale_39 : decode cX8_commonWithScale 39 = .ok (.lstore_n 2, 1) := by decide +kernel
theorem dX8_commonWithScale_40 : decode cX8_commonWithScale 40 = .ok (.lload 7, 2) := by decide +kernel
theorem dX8_commonWithScale_42 : decode cX8_commonWithScale 42 = .ok (.lstore 4, 2) := by decide +kernel
theorem dX8_commonWithScale_44 : decode cX8_commonWithScale 44 = .ok (.iinc 6 1, 3) := by decide +kernel
theorem dX8_commonWithScale_47 : decode cX8_commonWithScale 47 = .ok (.goto (-30), 3) := by decide +kernel
theorem dX8_commonWithScale_50 : decode cX8_commonWithScale 50 = .ok (.lload_n 2, 1) := by decide +kernel
theorem dX8_commonWithScale_51 : decode cX8_commonWithScale 51 = .ok (.lconst 1, 1) := by decide +kernel
theorem dX8_commonWithScale_52 : decode cX8_commonWithScale 52 = .ok (.invokestatic 214, 3) := by decide +kernel
theorem dX8_commonWithScale_55 : decode cX8_commonWithScale 55 = .ok (.lreturn, 1) := by decide +kernel
theorem dX8_isIn_0 : decode cX8_isIn 0 = .ok (.iload_n 0, 1) := by decide +kernel
theorem dX8_isIn_1 : decode cX8_isIn 1 = .ok (.iload_n 1, 1) := by decide +kernel
theorem dX8_isIn_2 : decode cX8_isIn 2 = .ok (.ishr, 1) := by decide +kernel
theorem dX8_isIn_3 : decode cX8_isIn 3 = .ok (.iconst 1, 1) := by decide +kernel
theorem dX8_isIn_4 : decode cX8_isIn 4 = .ok (.iand, 1) := by decide +kernel
theorem dX8_isIn_5 : decode cX8_isIn 5 = .ok (.iconst 1, 1) := by decide +kernel
theorem dX8_isIn_6 : decode cX8_isIn 6 = .ok (.if_icmp .ne 7, 3) := by decide +kernel
theorem dX8_isIn_9 : decode cX8_isIn 9 = .ok (.iconst 1, 1) := by decide +kernel
theorem dX8_isIn_10 : decode cX8_isIn 10 = .ok (.goto 4, 3) := by decide +kernel
theorem dX8_isIn_13 : decode cX8_isIn 13 = .ok (.iconst 0, 1) := by decide +kernel
theorem dX8_isIn_14 : decode cX8_isIn 14 = .ok (.ireturn, 1) := by decide +kernel
end
section
theorem dX9_init_0 : decode cX9_init 0 = .ok (.aload_n 0, 1) := by decide +kernel
theorem dX9_init_1 : decode cX9_init 1 = .ok (.invokespecial 1, 3) := by decide +kernel
theorem dX9_init_4 : decode cX9_init 4 = .ok (.aload_n 0, 1) := by decide +kernel
theorem dX9_init_5 : decode cX9_init 5 = .ok (.bipush 8, 2) := by decide +kernel
theorem dX9_init_7 : decode cX9_init 7 = .ok (.newarray .int, 2) := by decide +kernel
theorem dX9_init_9 : decode cX9_init 9 = .ok (.putfield 7, 3) := by decide +kernel
theorem dX9_init_12 : decode cX9_init 12 = .ok (.aload_n 0, 1) := by decide +kernel
theorem dX9_init_13 : decode cX9_init 13 = .ok (.bipush 8, 2) := by decide +kernel
theorem dX9_init_15 : decode cX9_init 15 = .ok (.newarray .int, 2) := by decide +kernel
theorem dX9_init_17 : decode cX9_init 17 = .ok (.putfield 13, 3) := by decide +kernel
theorem dX9_init_20 : decode cX9_init 20 = .ok (.aload_n 0, 1) := by decide +kernel
theorem dX9_init_21 : decode cX9_init 21 = .ok (.bipush 8, 2) := by decide +kernel
theorem dX9_init_23 : decode cX9_init 23 = .ok (.newarray .long, 2) := by decide +kernel
theorem dX9_init_25 : decode cX9_init 25 = .ok (.putfield 16, 3) := by decide +kernel
theorem dX9_init_28 : decode cX9_init 28 = .ok (.aload_n 0, 1) := by decide +kernel
theorem dX9_init_29 : decode cX9_init 29 = .ok (.bipush 10, 2) := by decide +kernel
theorem dX9_init_31 : decode cX9_init 31 = .ok (.newarray .int, 2) := by decide +kernel
theorem dX9_init_33 : decode cX9_init 33 = .ok (.putfield 20, 3) := by decide +kernel
theorem dX9_init_36 : decode cX9_init 36 = .ok (.aload_n 0, 1) := by decide +kernel
theorem dX9_init_37 : decode cX9_init 37 = .ok (.bipush 80, 2) := by decide +kernel
theorem dX9_init_39 : decode cX9_init 39 = .ok (.newarray .int, 2) := by decide +kernel
theorem dX9_init_41 : decode cX9_init 41 = .ok (.putfield 23, 3) := by decide +kernel
theorem dX9_init_44 : decode cX9_init 44 = .ok (.aload_n 0, 1) := by decide +kernel
theorem dX9_init_45 : decode cX9_init 45 = .ok (.sipush 320, 3) := by decide +kernel
theorem dX9_init_48 : decode cX9_init 48 = .ok (.newarray .long, 2) := by decide +kernel
theorem dX9_init_50 : decode cX9_init 50 = .ok (.putfield 26, 3) := by decide +kernel
theorem dX9_init_53 : decode cX9_init 53 = .ok (.aload_n 0, 1) := by decide +kernel
theorem dX9_init_54 : decode cX9_init 54 = .ok (.bipush 40, 2) := by decide +kernel
theorem dX9_init_56 : decode cX9_init 56 = .ok (.newarray .long, 2) := by decide +kernel
theorem dX9_init_58 : decode cX9_init 58 = .ok (.putfield 29, 3) := by decide +kernel
theorem dX9_init_61 : decode cX9_init 61 = .ok (.aload_n 0, 1) := by decide +kernel
theorem dX9_init_62 : decode cX9_init 62 = .ok (.bipush 40, 2) := by decide +kernel
theorem dX9_init_64 : decode cX9_init 64 = .ok (.newarray .int, 2) := by decide +kernel
theorem dX9_init_66 : decode cX9_init 66 = .ok (.putfield 32, 3) := by decide +kernel
theorem dX9_init_69 : decode cX9_init 69 = .ok (.aload_n 0, 1) := by decide +kernel
theorem dX9_init_70 : decode cX9_init 70 = .ok (.bipush 40, 2) := by decide +kernel
theorem dX9_init_72 : decode cX9_init 72 = .ok (.newarray .int, 2) := by decide +kernel
theorem dX9_init_74 : decode cX9_init 74 = .ok (.putfield 35, 3) := by decide +kernel
theorem dX9_init_77 : decode cX9_init 77 = .ok (.aload_n 0, 1) := by decide +kernel
theorem dX9_init_78 : decode cX9_init 78 = .ok (.sipush 1080, 3) := by decide +kernel
theorem dX9_init_81 : decode cX9_init 81 = .ok (.newarray .int, 2) := by decide +kernel
theorem dX9_init_83 : decode cX9_init 83 = .ok (.putfield 38, 3) := by decide +kernel
theorem dX9_init_86 : decode cX9_init 86 = .ok (.aload_n 0, 1) := by decide +kernel
theorem dX9_init_87 : decode cX9_init 87 = .ok (.iconst 1, 1) := by decide +kernel
theorem dX9_init_88 : decode cX9_init 88 = .ok (.putfield 41, 3) := by decide +kernel
theorem dX9_init_91 : decode cX9_init 91 = .ok (.aload_n 0, 1) := by decide +kernel
theorem dX9_init_92 : decode cX9_init 92 = .ok (.bipush 8, 2) := by decide +kernel
theorem dX9_init_94 : decode cX9_init 94 = .ok (.newarray .long, 2) := by decide +kernel
theorem dX9_init_96 : decode cX9_init 96 = .ok (.putfield 45, 3) := by decide +kernel
theorem dX9_init_99 : decode cX9_init 99 = .ok (.aload_n 0, 1) := by decide +kernel
theorem dX9_init_100 : decode cX9_init 100 = .ok (.bipush 27, 2) := by decide +kernel
theorem dX9_init_102 : decode cX9_init 102 = .ok (.newarray .int, 2) := by decide +kernel
theorem dX9_init_104 : decode cX9_init 104 = .ok (.putfield 48, 3) := by decide +kernel
theorem dX9_init_107 : decode cX9_init 107 = .ok (.aload_n 0, 1) := by decide +kernel
theorem dX9_init_108 : decode cX9_init 108 = .ok (.bipush 8, 2) := by decide +kernel
theorem dX9_init_110 : decode cX9_init 110 = .ok (.newarray .int, 2) := by decide +kernel
theorem dX9_init_112 : decode cX9_init 112 = .ok (.putfield 51, 3) := by decide +kernel
theorem dX9_init_115 : decode cX9_init 115 = .ok (.aload_n 0, 1) := by decide +kernel
theorem dX9_init_116 : decode cX9_init 116 = .ok (.bipush 8, 2) := by decide +kernel
theorem dX9_init_118 : decode cX9_init 118 = .ok (.newarray .int, 2) := by decide +kernel
theorem dX9_init_120 : decode cX9_init 120 = .ok (.putfield 54, 3) := by decide +kernel
theorem dX9_init_123 : decode cX9_init 123 = .ok (.aload_n 0, 1) := by decide +kernel
theorem dX9_init_124 : decode cX9_init 124 = .ok (.bipush 8, 2) := by decide +kernel
theorem dX9_init_126 : decode cX9_init 126 = .ok (.newarray .int, 2) := by decide +kernel
theorem dX9_init_128 : decode cX9_init 128 = .ok (.putfield 57, 3) := by decide +kernel
theorem dX9_init_131 : decode cX9_init 131 = .ok (.aload_n 0, 1) := by decide +kernel
theorem dX9_init_132 : decode cX9_init 132 = .ok (.bipush 8, 2) := by decide +kernel
theorem dX9_init_134 : decode cX9_init 134 = .ok (.newarray .int, 2) := by decide +kernel
theorem dX9_init_136 : decode cX9_init 136 = .ok (.putfield 60, 3) := by decide +kernel
theorem dX9_init_139 : decode cX9_init 139 = .ok (.return_, 1) := by decide +kernel
theorem dX9_thrown_0 : decode cX9_thrown 0 = .ok (.aload_n 0, 1) := by decide +kernel
theorem dX9_thrown_1 : decode cX9_thrown 1 = .ok (.getfield 63, 3) := by decide +kernel
theorem dX9_thrown_4 : decode cX9_thrown 4 = .ok (.ireturn, 1) := by decide +kernel
theorem dX9_name_0 : decode cX9_name 0 = .ok (.aload_n 0, 1) := by decide +kernel
theorem dX9_name_1 : decode cX9_name 1 = .ok (.iconst 0, 1) := by decide +kernel
theorem dX9_name_2 : decode cX9_name 2 = .ok (.putfield 63, 3) := by decide +kernel
theorem dX9_name_5 : decode cX9_name 5 = .ok (.iload_n 1, 1) := by decide +kernel
theorem dX9_name_6 : decode cX9_name 6 = .ok (.bipush (-30), 2) := by decide +kernel
theorem dX9_name_8 : decode cX9_name 8 = .ok (.if_icmp .lt 26, 3) := by decide +kernel
theorem dX9_name_11 : decode cX9_name 11 = .ok (.iload_n 1, 1) := by decide +kernel
theorem dX9_name_12 : decode cX9_name 12 = .ok (.bipush 30, 2) := by decide +kernel
theorem dX9_name_14 : decode cX9_name 14 = .ok (.if_icmp .gt 20, 3) := by decide +kernel
theorem dX9_name_17 : decode cX9_name 17 = .ok (.iload_n 2, 1) := by decide +kernel
theorem dX9_name_18 : decode cX9_name 18 = .ok (.bipush (-30), 2) := by decide +kernel
theorem dX9_name_20 : decode cX9_name 20 = .ok (.if_icmp .lt 14, 3) := by decide +kernel
theorem dX9_name_23 : decode cX9_name 23 = .ok (.iload_n 2, 1) := by decide +kernel
theorem dX9_name_24 : decode cX9_name 24 = .ok (.bipush 30, 2) := by decide +kernel
theorem dX9_name_26 : decode cX9_name 26 = .ok (.if_icmp .gt 8, 3) := by decide +kernel
theorem dX9_name_29 : decode cX9_name 29 = .ok (.iload_n 2, 1) := by decide +kernel
theorem dX9_name_30 : decode cX9_name 30 = .ok (.iload_n 1, 1) := by decide +kernel
theorem dX9_name_31 : decode cX9_name 31 = .ok (.if_icmp .ge 6, 3) := by decide +kernel
theorem dX9_name_34 : decode cX9_name 34 = .ok (.bipush (-2), 2) := by decide +kernel
theorem dX9_name_36 : decode cX9_name 36 = .ok (.ireturn, 1) := by decide +kernel
theorem dX9_name_37 : decode cX9_name 37 = .ok (.aload_n 0, 1) := by decide +kernel
theorem dX9_name_38 : decode cX9_name 38 = .ok (.getfield 66, 3) := by decide +kernel
theorem dX9_name_41 : decode cX9_name 41 = .ok (.bipush 8, 2) := by decide +kernel
theorem dX9_name_43 : decode cX9_name 43 = .ok (.if_icmp .ne 6, 3) := by decide +kernel
theorem dX9_name_46 : decode cX9_name 46 = .ok (.bipush (-4), 2) := by decide +kernel
theorem dX9_name_48 : decode cX9_name 48 = .ok (.ireturn, 1) := by decide +kernel
theorem dX9_name_49 : decode cX9_name 49 = .ok (.aload_n 0, 1) := by decide +kernel
theorem dX9_name_50 : decode cX9_name 50 = .ok (.getfield 7, 3) := by decide +kernel
theorem dX9_name_53 : decode cX9_name 53 = .ok (.aload_n 0, 1) := by decide +kernel
theorem dX9_name_54 : decode cX9_name 54 = .ok (.getfield 66, 3) := by decide +kernel
theorem dX9_name_57 : decode cX9_name 57 = .ok (.iload_n 1, 1) := by decide +kernel
theorem dX9_name_58 : decode cX9_name 58 = .ok (.iastore, 1) := by decide +kernel
theorem dX9_name_59 : decode cX9_name 59 = .ok (.aload_n 0, 1) := by decide +kernel
theorem dX9_name_60 : decode cX9_name 60 = .ok (.getfield 13, 3) := by decide +kernel
theorem dX9_name_63 : decode cX9_name 63 = .ok (.aload_n 0, 1) := by decide +kernel
theorem dX9_name_64 : decode cX9_name 64 = .ok (.getfield 66, 3) := by decide +kernel
theorem dX9_name_67 : decode cX9_name 67 = .ok (.iload_n 2, 1) := by decide +kernel
theorem dX9_name_68 : decode cX9_name 68 = .ok (.iastore, 1) := by decide +kernel
theorem dX9_name_69 : decode cX9_name 69 = .ok (.aload_n 0, 1) := by decide +kernel
theorem dX9_name_70 : decode cX9_name 70 = .ok (.getfield 16, 3) := by decide +kernel
theorem dX9_name_73 : decode cX9_name 73 = .ok (.aload_n 0, 1) := by decide +kernel
theorem dX9_name_74 : decode cX9_name 74 = .ok (.getfield 66, 3) := by decide +kernel
theorem dX9_name_77 : decode cX9_name 77 = .ok (.lconst 0, 1) := by decide +kernel
theorem dX9_name_78 : decode cX9_name 78 = .ok (.lastore, 1) := by decide +kernel
theorem dX9_name_79 : decode cX9_name 79 = .ok (.iconst 0, 1) := by decide +kernel
theorem dX9_name_80 : decode cX9_name 80 = .ok (.istore_n 3, 1) := by decide +kernel
theorem dX9_name_81 : decode cX9_name 81 = .ok (.iload_n 3, 1) := by decide +kernel
theorem dX9_name_82 : decode cX9_name 82 = .ok (.bipush 10, 2) := by decide +kernel
theorem dX9_name_84 : decode cX9_name 84 = .ok (.if_icmp .ge 24, 3) := by decide +kernel
theorem dX9_name_87 : decode cX9_name 87 = .ok (.aload_n 0, 1) := by decide +kernel
theorem dX9_name_88 : decode cX9_name 88 = .ok (.getfield 23, 3) := by decide +kernel
theorem dX9_name_91 : decode cX9_name 91 = .ok (.bipush 8, 2) := by decide +kernel
theorem dX9_name_93 : decode cX9_name 93 = .ok (.iload_n 3, 1) := by decide +kernel
theorem dX9_name_94 : decode cX9_name 94 = .ok (.imul, 1) := by decide +kernel
theorem dX9_name_95 : decode cX9_name 95 = .ok (.aload_n 0, 1) := by decide +kernel
theorem dX9_name_96 : decode cX9_name 96 = .ok (.getfield 66, 3) := by decide +kernel
theorem dX9_name_99 : decode cX9_name 99 = .ok (.iadd, 1) := by decide +kernel
theorem dX9_name_100 : decode cX9_name 100 = .ok (.iconst 0, 1) := by decide +kernel
theorem dX9_name_101 : decode cX9_name 101 = .ok (.iastore, 1) := by decide +kernel
theorem dX9_name_102 : decode cX9_name 102 = .ok (.iinc 3 1, 3) := by decide +kernel
theorem dX9_name_105 : decode cX9_name 105 = .ok (.goto (-24), 3) := by decide +kernel
theorem dX9_name_108 : decode cX9_name 108 = .ok (.aload_n 0, 1) := by decide +kernel
theorem dX9_name_109 : decode cX9_name 109 = .ok (.dup, 1) := by decide +kernel
theorem dX9_name_110 : decode cX9_name 110 = .ok (.getfield 66, 3) := by decide +kernel
theorem dX9_name_113 : decode cX9_name 113 = .ok (.iconst 1, 1) := by decide +kernel
theorem dX9_name_114 : decode cX9_name 114 = .ok (.iadd, 1) := by decide +kernel
theorem dX9_name_115 : decode cX9_name 115 = .ok (.putfield 66, 3) := by decide +kernel
theorem dX9_name_118 : decode cX9_name 118 = .ok (.aload_n 0, 1) := by decide +kernel
theorem dX9_name_119 : decode cX9_name 119 = .ok (.iconst 0, 1) := by decide +kernel
theorem dX9_name_120 : decode cX9_name 120 = .ok (.putfield 69, 3) := by decide +kernel
theorem dX9_name_123 : decode cX9_name 123 = .ok (.aload_n 0, 1) := by decide +kernel
theorem dX9_name_124 : decode cX9_name 124 = .ok (.getfield 66, 3) := by decide +kernel
theorem dX9_name_127 : decode cX9_name 127 = .ok (.iconst 1, 1) := by decide +kernel
theorem dX9_name_128 : decode cX9_name 128 = .ok (.isub, 1) := by decide +kernel
theorem dX9_name_129 : decode cX9_name 129 = .ok (.ireturn, 1) := by decide +kernel
theorem dX9_row_0 : decode cX9_row 0 = .ok (.aload_n 0, 1) := by decide +kernel
theorem dX9_row_1 : decode cX9_row 1 = .ok (.iconst 0, 1) := by decide +kernel
theorem dX9_row_2 : decode cX9_row 2 = .ok (.putfield 63, 3) := by decide +kernel
theorem dX9_row_5 : decode cX9_row 5 = .ok (.iload_n 1, 1) := by decide +kernel
theorem dX9_row_6 : decode cX9_row 6 = .ok (.sipush (-9999), 3) := by decide +kernel
theorem dX9_row_9 : decode cX9_row 9 = .ok (.if_icmp .lt 10, 3) := by decide +kernel
theorem dX9_row_12 : decode cX9_row 12 = .ok (.iload_n 1, 1) := by decide +kernel
theorem dX9_row_13 : decode cX9_row 13 = .ok (.sipush 9999, 3) := by decide +kernel
theorem dX9_row_16 : decode cX9_row 16 = .ok (.if_icmp .le 6, 3) := by decide +kernel
theorem dX9_row_19 : decode cX9_row 19 = .ok (.bipush (-2), 2) := by decide +kernel
theorem dX9_row_21 : decode cX9_row 21 = .ok (.ireturn, 1) := by decide +kernel
theorem dX9_row_22 : decode cX9_row 22 = .ok (.aload_n 0, 1) := by decide +kernel
theorem dX9_row_23 : decode cX9_row 23 = .ok (.getfield 72, 3) := by decide +kernel
theorem dX9_row_26 : decode cX9_row 26 = .ok (.bipush 10, 2) := by decide +kernel
theorem dX9_row_28 : decode cX9_row 28 = .ok (.if_icmp .ne 6, 3) := by decide +kernel
theorem dX9_row_31 : decode cX9_row 31 = .ok (.bipush (-4), 2) := by decide +kernel
theorem dX9_row_33 : decode cX9_row 33 = .ok (.ireturn, 1) := by decide +kernel
theorem dX9_row_34 : decode cX9_row 34 = .ok (.aload_n 0, 1) := by decide +kernel
theorem dX9_row_35 : decode cX9_row 35 = .ok (.getfield 20, 3) := by decide +kernel
theorem dX9_row_38 : decode cX9_row 38 = .ok (.aload_n 0, 1) := by decide +kernel
theorem dX9_row_39 : decode cX9_row 39 = .ok (.getfield 72, 3) := by decide +kernel
theorem dX9_row_42 : decode cX9_row 42 = .ok (.iload_n 1, 1) := by decide +kernel
theorem dX9_row_43 : decode cX9_row 43 = .ok (.iastore, 1) := by decide +kernel
theorem dX9_row_44 : decode cX9_row 44 = .ok (.iconst 0, 1) := by decide +kernel
theorem dX9_row_45 : decode cX9_row 45 = .ok (.istore_n 2, 1) := by decide +kernel
theorem dX9_row_46 : decode cX9_row 46 = .ok (.iload_n 2, 1) := by decide +kernel
theorem dX9_row_47 : decode cX9_row 47 = .ok (.bipush 8, 2) := by decide +kernel
theorem dX9_row_49 : decode cX9_row 49 = .ok (.if_icmp .ge 24, 3) := by decide +kernel
theorem dX9_row_52 : decode cX9_row 52 = .ok (.aload_n 0, 1) := by decide +kernel
theorem dX9_row_53 : decode cX9_row 53 = .ok (.getfield 23, 3) := by decide +kernel
theorem dX9_row_56 : decode cX9_row 56 = .ok (.bipush 8, 2) := by decide +kernel
theorem dX9_row_58 : decode cX9_row 58 = .ok (.aload_n 0, 1) := by decide +kernel
theorem dX9_row_59 : decode cX9_row 59 = .ok (.getfield 72, 3) := by decide +kernel
theorem dX9_row_62 : decode cX9_row 62 = .ok (.imul, 1) := by decide +kernel
theorem dX9_row_63 : decode cX9_row 63 = .ok (.iload_n 2, 1) := by decide +kernel
theorem dX9_row_64 : decode cX9_row 64 = .ok (.iadd, 1) := by decide +kernel
theorem dX9_row_65 : decode cX9_row 65 = .ok (.iconst 0, 1) := by decide +kernel
theorem dX9_row_66 : decode cX9_row 66 = .ok (.iastore, 1) := by decide +kernel
theorem dX9_row_67 : decode cX9_row 67 = .ok (.iinc 2 1, 3) := by decide +kernel
theorem dX9_row_70 : decode cX9_row 70 = .ok (.goto (-24), 3) := by decide +kernel
theorem dX9_row_73 : decode cX9_row 73 = .ok (.aload_n 0, 1) := by decide +kernel
theorem dX9_row_74 : decode cX9_row 74 = .ok (.dup, 1) := by decide +kernel
theorem dX9_row_75 : decode cX9_row 75 = .ok (.getfield 72, 3) := by decide +kernel
theorem dX9_row_78 : decode cX9_row 78 = .ok (.iconst 1, 1) := by decide +kernel
theorem dX9_row_79 : decode cX9_row 79 = .ok (.iadd, 1) := by decide +kernel
theorem dX9_row_80 : decode cX9_row 80 = .ok (.putfield 72, 3) := by decide +kernel
theorem dX9_row_83 : decode cX9_row 83 = .ok (.aload_n 0, 1) := by decide +kernel
theorem dX9_row_84 : decode cX9_row 84 = .ok (.iconst 0, 1) := by decide +kernel
theorem dX9_row_85 : decode cX9_row 85 = .ok (.putfield 69, 3) := by decide +kernel
theorem dX9_row_88 : decode cX9_row 88 = .ok (.aload_n 0, 1) := by decide +kernel
theorem dX9_row_89 : decode cX9_row 89 = .ok (.getfield 72, 3) := by decide +kernel
theorem dX9_row_92 : decode cX9_row 92 = .ok (.iconst 1, 1) := by decide +kernel
theorem dX9_row_93 : decode cX9_row 93 = .ok (.isub, 1) := by decide +kernel
theorem dX9_row_94 : decode cX9_row 94 = .ok (.ireturn, 1) := by decide +kernel
theorem dX9_isName_0 : decode cX9_isName 0 = .ok (.iload_n 1, 1) := by decide +kernel
theorem dX9_isName_1 : decode cX9_isName 1 = .ok (.ifCond .lt 15, 3) := by decide +kernel
theorem dX9_isName_4 : decode cX9_isName 4 = .ok (.iload_n 1, 1) := by decide +kernel
theorem dX9_isName_5 : decode cX9_isName 5 = .ok (.aload_n 0, 1) := by decide +kernel
theorem dX9_isName_6 : decode cX9_isName 6 = .ok (.getfield 66, 3) := by decide +kernel
theorem dX9_isName_9 : decode cX9_isName 9 = .ok (.if_icmp .ge 7, 3) := by decide +kernel
theorem dX9_isName_12 : decode cX9_isName 12 = .ok (.iconst 1, 1) := by decide +kernel
theorem dX9_isName_13 : decode cX9_isName 13 = .ok (.goto 4, 3) := by decide +kernel
theorem dX9_isName_16 : decode cX9_isName 16 = .ok (.iconst 0, 1) := by decide +kernel
theorem dX9_isName_17 : decode cX9_isName 17 = .ok (.ireturn, 1) := by decide +kernel
theorem dX9_isRow_0 : decode cX9_isRow 0 = .ok (.iload_n 1, 1) := by decide +kernel
theorem dX9_isRow_1 : decode cX9_isRow 1 = .ok (.ifCond .lt 15, 3) := by decide +kernel
theorem dX9_isRow_4 : decode cX9_isRow 4 = .ok (.iload_n 1, 1) := by decide +kernel
theorem dX9_isRow_5 : decode cX9_isRow 5 = .ok (.aload_n 0, 1) := by decide +kernel
theorem dX9_isRow_6 : decode cX9_isRow 6 = .ok (.getfield 72, 3) := by decide +kernel
theorem dX9_isRow_9 : decode cX9_isRow 9 = .ok (.if_icmp .ge 7, 3) := by decide +kernel
theorem dX9_isRow_12 : decode cX9_isRow 12 = .ok (.iconst 1, 1) := by decide +kernel
theorem dX9_isRow_13 : decode cX9_isRow 13 = .ok (.goto 4, 3) := by decide +kernel
theorem dX9_isRow_16 : decode cX9_isRow 16 = .ok (.iconst 0, 1) := by decide +kernel
theorem dX9_isRow_17 : decode cX9_isRow 17 = .ok (.ireturn, 1) := by decide +kernel
theorem dX9_isCut_0 : decode cX9_isCut 0 = .ok (.iload_n 1, 1) := by decide +kernel
theorem dX9_isCut_1 : decode cX9_isCut 1 = .ok (.ifCond .lt 15, 3) := by decide +kernel
theorem dX9_isCut_4 : decode cX9_isCut 4 = .ok (.iload_n 1, 1) := by decide +kernel
theorem dX9_isCut_5 : decode cX9_isCut 5 = .ok (.aload_n 0, 1) := by decide +kernel
theorem dX9_isCut_6 : decode cX9_isCut 6 = .ok (.getfield 69, 3) := by decide +kernel
theorem dX9_isCut_9 : decode cX9_isCut 9 = .ok (.if_icmp .ge 7, 3) := by decide +kernel
theorem dX9_isCut_12 : decode cX9_isCut 12 = .ok (.iconst 1, 1) := by decide +kernel
theorem dX9_isCut_13 : decode cX9_isCut 13 = .ok (.goto 4, 3) := by decide +kernel
theorem dX9_isCut_16 : decode cX9_isCut 16 = .ok (.iconst 0, 1) := by decide +kernel
theorem dX9_isCut_17 : decode cX9_isCut 17 = .ok (.ireturn, 1) := by decide +kernel
theorem dX9_factor_0 : decode cX9_factor 0 = .ok (.aload_n 0, 1) := by decide +kernel
theorem dX9_factor_1 : decode cX9_factor 1 = .ok (.iconst 0, 1) := by decide +kernel
theorem dX9_factor_2 : decode cX9_factor 2 = .ok (.putfield 63, 3) := by decide +kernel
theorem dX9_factor_5 : decode cX9_factor 5 = .ok (.aload_n 0, 1) := by decide +kernel
theorem dX9_factor_6 : decode cX9_factor 6 = .ok (.iload_n 1, 1) := by decide +kernel
theorem dX9_factor_7 : decode cX9_factor 7 = .ok (.invokevirtual 75, 3) := by decide +kernel
theorem dX9_factor_10 : decode cX9_factor 10 = .ok (.ifCond .eq 11, 3) := by decide +kernel
theorem dX9_factor_13 : decode cX9_factor 13 = .ok (.aload_n 0, 1) := by decide +kernel
theorem dX9_factor_14 : decode cX9_factor 14 = .ok (.iload_n 2, 1) := by decide +kernel
theorem dX9_factor_15 : decode cX9_factor 15 = .ok (.invokevirtual 79, 3) := by decide +kernel
theorem dX9_factor_18 : decode cX9_factor 18 = .ok (.ifCond .ne 5, 3) := by decide +kernel
theorem dX9_factor_21 : decode cX9_factor 21 = .ok (.iconst (-1), 1) := by decide +kernel
theorem dX9_factor_22 : decode cX9_factor 22 = .ok (.ireturn, 1) := by decide +kernel
theorem dX9_factor_23 : decode cX9_factor 23 = .ok (.iload_n 3, 1) := by decide +kernel
theorem dX9_factor_24 : decode cX9_factor 24 = .ok (.bipush (-50), 2) := by decide +kernel
theorem dX9_factor_26 : decode cX9_factor 26 = .ok (.if_icmp .lt 9, 3) := by decide +kernel
theorem dX9_factor_29 : decode cX9_factor 29 = .ok (.iload_n 3, 1) := by decide +kernel
theorem dX9_factor_30 : decode cX9_factor 30 = .ok (.bipush 50, 2) := by decide +kernel
theorem dX9_factor_32 : decode cX9_factor 32 = .ok (.if_icmp .le 6, 3) := by decide +kernel
theorem dX9_factor_35 : decode cX9_factor 35 = .ok (.bipush (-2), 2) := by decide +kernel
theorem dX9_factor_37 : decode cX9_factor 37 = .ok (.ireturn, 1) := by decide +kernel
theorem dX9_factor_38 : decode cX9_factor 38 = .ok (.aload_n 0, 1) := by decide +kernel
theorem dX9_factor_39 : decode cX9_factor 39 = .ok (.getfield 23, 3) := by decide +kernel
theorem dX9_factor_42 : decode cX9_factor 42 = .ok (.bipush 8, 2) := by decide +kernel
theorem dX9_factor_44 : decode cX9_factor 44 = .ok (.iload_n 1, 1) := by decide +kernel
theorem dX9_factor_45 : decode cX9_factor 45 = .ok (.imul, 1) := by decide +kernel
theorem dX9_factor_46 : decode cX9_factor 46 = .ok (.iload_n 2, 1) := by decide +kernel
theorem dX9_factor_47 : decode cX9_factor 47 = .ok (.iadd, 1) := by decide +kernel
theorem dX9_factor_48 : decode cX9_factor 48 = .ok (.iaload, 1) := by decide +kernel
theorem dX9_factor_49 : decode cX9_factor 49 = .ok (.istore 4, 2) := by decide +kernel
theorem dX9_factor_51 : decode cX9_factor 51 = .ok (.aload_n 0, 1) := by decide +kernel
theorem dX9_factor_52 : decode cX9_factor 52 = .ok (.getfield 23, 3) := by decide +kernel
theorem dX9_factor_55 : decode cX9_factor 55 = .ok (.bipush 8, 2) := by decide +kernel
theorem dX9_factor_57 : decode cX9_factor 57 = .ok (.iload_n 1, 1) := by decide +kernel
theorem dX9_factor_58 : decode cX9_factor 58 = .ok (.imul, 1) := by decide +kernel
theorem dX9_factor_59 : decode cX9_factor 59 = .ok (.iload_n 2, 1) := by decide +kernel
theorem dX9_factor_60 : decode cX9_factor 60 = .ok (.iadd, 1) := by decide +kernel
theorem dX9_factor_61 : decode cX9_factor 61 = .ok (.iload_n 3, 1) := by decide +kernel
theorem dX9_factor_62 : decode cX9_factor 62 = .ok (.iastore, 1) := by decide +kernel
theorem dX9_factor_63 : decode cX9_factor 63 = .ok (.aload_n 0, 1) := by decide +kernel
theorem dX9_factor_64 : decode cX9_factor 64 = .ok (.iconst 0, 1) := by decide +kernel
theorem dX9_factor_65 : decode cX9_factor 65 = .ok (.putfield 69, 3) := by decide +kernel
theorem dX9_factor_68 : decode cX9_factor 68 = .ok (.iload 4, 2) := by decide +kernel
theorem dX9_factor_70 : decode cX9_factor 70 = .ok (.ireturn, 1) := by decide +kernel
theorem dX9_point_0 : decode cX9_point 0 = .ok (.aload_n 0, 1) := by decide +kernel
theorem dX9_point_1 : decode cX9_point 1 = .ok (.iconst 0, 1) := by decide +kernel
theorem dX9_point_2 : decode cX9_point 2 = .ok (.putfield 63, 3) := by decide +kernel
theorem dX9_point_5 : decode cX9_point 5 = .ok (.aload_n 0, 1) := by decide +kernel
theorem dX9_point_6 : decode cX9_point 6 = .ok (.iload_n 1, 1) := by decide +kernel
theorem dX9_point_7 : decode cX9_point 7 = .ok (.invokevirtual 79, 3) := by decide +kernel
theorem dX9_point_10 : decode cX9_point 10 = .ok (.ifCond .ne 5, 3) := by decide +kernel
theorem dX9_point_13 : decode cX9_point 13 = .ok (.iconst (-1), 1) := by decide +kernel
theorem dX9_point_14 : decode cX9_point 14 = .ok (.ireturn, 1) := by decide +kernel
theorem dX9_point_15 : decode cX9_point 15 = .ok (.iload_n 3, 1) := by decide +kernel
theorem dX9_point_16 : decode cX9_point 16 = .ok (.iconst 1, 1) := by decide +kernel
theorem dX9_point_17 : decode cX9_point 17 = .ok (.if_icmp .lt 23, 3) := by decide +kernel
theorem dX9_point_20 : decode cX9_point 20 = .ok (.iload_n 3, 1) := by decide +kernel
theorem dX9_point_21 : decode cX9_point 21 = .ok (.bipush 12, 2) := by decide +kernel
theorem dX9_point_23 : decode cX9_point 23 = .ok (.if_icmp .gt 17, 3) := by decide +kernel
theorem dX9_point_26 : decode cX9_point 26 = .ok (.iload_n 2, 1) := by decide +kernel
theorem dX9_point_27 : decode cX9_point 27 = .ok (.sipush (-400), 3) := by decide +kernel
theorem dX9_point_30 : decode cX9_point 30 = .ok (.if_icmp .lt 10, 3) := by decide +kernel
theorem dX9_point_33 : decode cX9_point 33 = .ok (.iload_n 2, 1) := by decide +kernel
theorem dX9_point_34 : decode cX9_point 34 = .ok (.sipush 400, 3) := by decide +kernel
theorem dX9_point_37 : decode cX9_point 37 = .ok (.if_icmp .le 6, 3) := by decide +kernel
theorem dX9_point_40 : decode cX9_point 40 = .ok (.bipush (-2), 2) := by decide +kernel
theorem dX9_point_42 : decode cX9_point 42 = .ok (.ireturn, 1) := by decide +kernel
theorem dX9_point_43 : decode cX9_point 43 = .ok (.aload_n 0, 1) := by decide +kernel
theorem dX9_point_44 : decode cX9_point 44 = .ok (.getfield 16, 3) := by decide +kernel
theorem dX9_point_47 : decode cX9_point 47 = .ok (.iload_n 1, 1) := by decide +kernel
theorem dX9_point_48 : decode cX9_point 48 = .ok (.iload_n 2, 1) := by decide +kernel
theorem dX9_point_49 : decode cX9_point 49 = .ok (.i2l, 1) := by decide +kernel
theorem dX9_point_50 : decode cX9_point 50 = .ok (.ldc2_w 82, 3) := by decide +kernel
theorem dX9_point_53 : decode cX9_point 53 = .ok (.iload_n 3, 1) := by decide +kernel
theorem dX9_point_54 : decode cX9_point 54 = .ok (.i2l, 1) := by decide +kernel
theorem dX9_point_55 : decode cX9_point 55 = .ok (.ldiv, 1) := by decide +kernel
theorem dX9_point_56 : decode cX9_point 56 = .ok (.lmul, 1) := by decide +kernel
theorem dX9_point_57 : decode cX9_point 57 = .ok (.lastore, 1) := by decide +kernel
theorem dX9_point_58 : decode cX9_point 58 = .ok (.iconst 1, 1) := by decide +kernel
theorem dX9_point_59 : decode cX9_point 59 = .ok (.ireturn, 1) := by decide +kernel
theorem dX9_isBinary_0 : decode cX9_isBinary 0 = .ok (.aload_n 0, 1) := by decide +kernel
theorem dX9_isBinary_1 : decode cX9_isBinary 1 = .ok (.getfield 7, 3) := by decide +kernel
theorem dX9_isBinary_4 : decode cX9_isBinary 4 = .ok (.iload_n 1, 1) := by decide +kernel
theorem dX9_isBinary_5 : decode cX9_isBinary 5 = .ok (.iaload, 1) := by decide +kernel
theorem dX9_isBinary_6 : decode cX9_isBinary 6 = .ok (.ifCond .ne 17, 3) := by decide +kernel
theorem dX9_isBinary_9 : decode cX9_isBinary 9 = .ok (.aload_n 0, 1) := by decide +kernel
theorem dX9_isBinary_10 : decode cX9_isBinary 10 = .ok (.getfield 13, 3) := by decide +kernel
theorem dX9_isBinary_13 : decode cX9_isBinary 13 = .ok (.iload_n 1, 1) := by decide +kernel
theorem dX9_isBinary_14 : decode cX9_isBinary 14 = .ok (.iaload, 1) := by decide +kernel
theorem dX9_isBinary_15 : decode cX9_isBinary 15 = .ok (.iconst 1, 1) := by decide +kernel
theorem dX9_isBinary_16 : decode cX9_isBinary 16 = .ok (.if_icmp .ne 7, 3) := by decide +kernel
theorem dX9_isBinary_19 : decode cX9_isBinary 19 = .ok (.iconst 1, 1) := by decide +kernel
theorem dX9_isBinary_20 : decode cX9_isBinary 20 = .ok (.goto 4, 3) := by decide +kernel
theorem dX9_isBinary_23 : decode cX9_isBinary 23 = .ok (.iconst 0, 1) := by decide +kernel
theorem dX9_isBinary_24 : decode cX9_isBinary 24 = .ok (.ireturn, 1) := by decide +kernel
theorem dX9_least_0 : decode cX9_least 0 = .ok (.aload_n 0, 1) := by decide +kernel
theorem dX9_least_1 : decode cX9_least 1 = .ok (.getfield 23, 3) := by decide +kernel
theorem dX9_least_4 : decode cX9_least 4 = .ok (.bipush 8, 2) := by decide +kernel
theorem dX9_least_6 : decode cX9_least 6 = .ok (.iload_n 1, 1) := by decide +kernel
theorem dX9_least_7 : decode cX9_least 7 = .ok (.imul, 1) := by decide +kernel
theorem dX9_least_8 : decode cX9_least 8 = .ok (.iload_n 2, 1) := by decide +kernel
theorem dX9_least_9 : decode cX9_least 9 = .ok (.iadd, 1) := by decide +kernel
theorem dX9_least_10 : decode cX9_least 10 = .ok (.iaload, 1) := by decide +kernel
theorem dX9_least_11 : decode cX9_least 11 = .ok (.istore_n 3, 1) := by decide +kernel
theorem dX9_least_12 : decode cX9_least 12 = .ok (.iload_n 3, 1) := by decide +kernel
theorem dX9_least_13 : decode cX9_least 13 = .ok (.ifCond .ge 14, 3) := by decide +kernel
theorem dX9_least_16 : decode cX9_least 16 = .ok (.iload_n 3, 1) := by decide +kernel
theorem dX9_least_17 : decode cX9_least 17 = .ok (.aload_n 0, 1) := by decide +kernel
theorem dX9_least_18 : decode cX9_least 18 = .ok (.getfield 13, 3) := by decide +kernel
theorem dX9_least_21 : decode cX9_least 21 = .ok (.iload_n 2, 1) := by decide +kernel
theorem dX9_least_22 : decode cX9_least 22 = .ok (.iaload, 1) := by decide +kernel
theorem dX9_least_23 : decode cX9_least 23 = .ok (.imul, 1) := by decide +kernel
theorem dX9_least_24 : decode cX9_least 24 = .ok (.goto 11, 3) := by decide +kernel
theorem dX9_least_27 : decode cX9_least 27 = .ok (.iload_n 3, 1) := by decide +kernel
theorem dX9_least_28 : decode cX9_least 28 = .ok (.aload_n 0, 1) := by decide +kernel
theorem dX9_least_29 : decode cX9_least 29 = .ok (.getfield 7, 3) := by decide +kernel
theorem dX9_least_32 : decode cX9_least 32 = .ok (.iload_n 2, 1) := by decide +kernel
theorem dX9_least_33 : decode cX9_least 33 = .ok (.iaload, 1) := by decide +kernel
theorem dX9_least_34 : decode cX9_least 34 = .ok (.imul, 1) := by decide +kernel
theorem dX9_least_35 : decode cX9_least 35 = .ok (.ireturn, 1) := by decide +kernel
theorem dX9_emptied_0 : decode cX9_emptied 0 = .ok (.iconst 0, 1) := by decide +kernel
theorem dX9_emptied_1 : decode cX9_emptied 1 = .ok (.istore_n 1, 1) := by decide +kernel
theorem dX9_emptied_2 : decode cX9_emptied 2 = .ok (.iload_n 1, 1) := by decide +kernel
theorem dX9_emptied_3 : decode cX9_emptied 3 = .ok (.bipush 8, 2) := by decide +kernel
theorem dX9_emptied_5 : decode cX9_emptied 5 = .ok (.if_icmp .ge 16, 3) := by decide +kernel
theorem dX9_emptied_8 : decode cX9_emptied 8 = .ok (.aload_n 0, 1) := by decide +kernel
theorem dX9_emptied_9 : decode cX9_emptied 9 = .ok (.getfield 45, 3) := by decide +kernel
theorem dX9_emptied_12 : decode cX9_emptied 12 = .ok (.iload_n 1, 1) := by decide +kernel
theorem dX9_emptied_13 : decode cX9_emptied 13 = .ok (.lconst 0, 1) := by decide +kernel
theorem dX9_emptied_14 : decode cX9_emptied 14 = .ok (.lastore, 1) := by decide +kernel
theorem dX9_emptied_15 : decode cX9_emptied 15 = .ok (.iinc 1 1, 3) := by decide +kernel
theorem dX9_emptied_18 : decode cX9_emptied 18 = .ok (.goto (-16), 3) := by decide +kernel
theorem dX9_emptied_21 : decode cX9_emptied 21 = .ok (.aload_n 0, 1) := by decide +kernel
theorem dX9_emptied_22 : decode cX9_emptied 22 = .ok (.lconst 0, 1) := by decide +kernel
theorem dX9_emptied_23 : decode cX9_emptied 23 = .ok (.putfield 84, 3) := by decide +kernel
theorem dX9_emptied_26 : decode cX9_emptied 26 = .ok (.iconst 0, 1) := by decide +kernel
theorem dX9_emptied_27 : decode cX9_emptied 27 = .ok (.istore_n 1, 1) := by decide +kernel
theorem dX9_emptied_28 : decode cX9_emptied 28 = .ok (.iload_n 1, 1) := by decide +kernel
theorem dX9_emptied_29 : decode cX9_emptied 29 = .ok (.bipush 27, 2) := by decide +kernel
theorem dX9_emptied_31 : decode cX9_emptied 31 = .ok (.if_icmp .ge 16, 3) := by decide +kernel
theorem dX9_emptied_34 : decode cX9_emptied 34 = .ok (.aload_n 0, 1) := by decide +kernel
theorem dX9_emptied_35 : decode cX9_emptied 35 = .ok (.getfield 48, 3) := by decide +kernel
theorem dX9_emptied_38 : decode cX9_emptied 38 = .ok (.iload_n 1, 1) := by decide +kernel
theorem dX9_emptied_39 : decode cX9_emptied 39 = .ok (.iconst 0, 1) := by decide +kernel
theorem dX9_emptied_40 : decode cX9_emptied 40 = .ok (.iastore, 1) := by decide +kernel
theorem dX9_emptied_41 : decode cX9_emptied 41 = .ok (.iinc 1 1, 3) := by decide +kernel
theorem dX9_emptied_44 : decode cX9_emptied 44 = .ok (.goto (-16), 3) := by decide +kernel
theorem dX9_emptied_47 : decode cX9_emptied 47 = .ok (.return_, 1) := by decide +kernel
theorem dX9_isThere_0 : decode cX9_isThere 0 = .ok (.iconst 0, 1) := by decide +kernel
theorem dX9_isThere_1 : decode cX9_isThere 1 = .ok (.istore_n 1, 1) := by decide +kernel
theorem dX9_isThere_2 : decode cX9_isThere 2 = .ok (.iload_n 1, 1) := by decide +kernel
theorem dX9_isThere_3 : decode cX9_isThere 3 = .ok (.aload_n 0, 1) := by decide +kernel
theorem dX9_isThere_4 : decode cX9_isThere 4 = .ok (.getfield 69, 3) := by decide +kernel
theorem dX9_isThere_7 : decode cX9_isThere 7 = .ok (.if_icmp .ge 82, 3) := by decide +kernel
theorem dX9_isThere_10 : decode cX9_isThere 10 = .ok (.aload_n 0, 1) := by decide +kernel
theorem dX9_isThere_11 : decode cX9_isThere 11 = .ok (.getfield 29, 3) := by decide +kernel
theorem dX9_isThere_14 : decode cX9_isThere 14 = .ok (.iload_n 1, 1) := by decide +kernel
theorem dX9_isThere_15 : decode cX9_isThere 15 = .ok (.laload, 1) := by decide +kernel
theorem dX9_isThere_16 : decode cX9_isThere 16 = .ok (.aload_n 0, 1) := by decide +kernel
theorem dX9_isThere_17 : decode cX9_isThere 17 = .ok (.getfield 84, 3) := by decide +kernel
theorem dX9_isThere_20 : decode cX9_isThere 20 = .ok (.lcmp, 1) := by decide +kernel
theorem dX9_isThere_21 : decode cX9_isThere 21 = .ok (.ifCond .ne 7, 3) := by decide +kernel
theorem dX9_isThere_24 : decode cX9_isThere 24 = .ok (.iconst 1, 1) := by decide +kernel
theorem dX9_isThere_25 : decode cX9_isThere 25 = .ok (.goto 4, 3) := by decide +kernel
theorem dX9_isThere_28 : decode cX9_isThere 28 = .ok (.iconst 0, 1) := by decide +kernel
theorem dX9_isThere_29 : decode cX9_isThere 29 = .ok (.istore_n 2, 1) := by decide +kernel
theorem dX9_isThere_30 : decode cX9_isThere 30 = .ok (.iconst 0, 1) := by decide +kernel
theorem dX9_isThere_31 : decode cX9_isThere 31 = .ok (.istore_n 3, 1) := by decide +kernel
theorem dX9_isThere_32 : decode cX9_isThere 32 = .ok (.iload_n 3, 1) := by decide +kernel
theorem dX9_isThere_33 : decode cX9_isThere 33 = .ok (.aload_n 0, 1) := by decide +kernel
theorem dX9_isThere_34 : decode cX9_isThere 34 = .ok (.getfield 66, 3) := by decide +kernel
theorem dX9_isThere_37 : decode cX9_isThere 37 = .ok (.if_icmp .ge 40, 3) := by decide +kernel
theorem dX9_isThere_40 : decode cX9_isThere 40 = .ok (.iload_n 2, 1) := by decide +kernel
theorem dX9_isThere_41 : decode cX9_isThere 41 = .ok (.ifCond .eq 28, 3) := by decide +kernel
theorem dX9_isThere_44 : decode cX9_isThere 44 = .ok (.aload_n 0, 1) := by decide +kernel
theorem dX9_isThere_45 : decode cX9_isThere 45 = .ok (.getfield 26, 3) := by decide +kernel
theorem dX9_isThere_48 : decode cX9_isThere 48 = .ok (.bipush 8, 2) := by decide +kernel
theorem dX9_isThere_50 : decode cX9_isThere 50 = .ok (.iload_n 1, 1) := by decide +kernel
theorem dX9_isThere_51 : decode cX9_isThere 51 = .ok (.imul, 1) := by decide +kernel
theorem dX9_isThere_52 : decode cX9_isThere 52 = .ok (.iload_n 3, 1) := by decide +kernel
theorem dX9_isThere_53 : decode cX9_isThere 53 = .ok (.iadd, 1) := by decide +kernel
theorem dX9_isThere_54 : decode cX9_isThere 54 = .ok (.laload, 1) := by decide +kernel
theorem dX9_isThere_55 : decode cX9_isThere 55 = .ok (.aload_n 0, 1) := by decide +kernel
theorem dX9_isThere_56 : decode cX9_isThere 56 = .ok (.getfield 45, 3) := by decide +kernel
theorem dX9_isThere_59 : decode cX9_isThere 59 = .ok (.iload_n 3, 1) := by decide +kernel
theorem dX9_isThere_60 : decode cX9_isThere 60 = .ok (.laload, 1) := by decide +kernel
theorem dX9_isThere_61 : decode cX9_isThere 61 = .ok (.lcmp, 1) := by decide +kernel
theorem dX9_isThere_62 : decode cX9_isThere 62 = .ok (.ifCond .ne 7, 3) := by decide +kernel
theorem dX9_isThere_65 : decode cX9_isThere 65 = .ok (.iconst 1, 1) := by decide +kernel
theorem dX9_isThere_66 : decode cX9_isThere 66 = .ok (.goto 4, 3) := by decide +kernel
theorem dX9_isThere_69 : decode cX9_isThere 69 = .ok (.iconst 0, 1) := by decide +kernel
theorem dX9_isThere_70 : decode cX9_isThere 70 = .ok (.istore_n 2, 1) := by decide +kernel
theorem dX9_isThere_71 : decode cX9_isThere 71 = .ok (.iinc 3 1, 3) := by decide +kernel
theorem dX9_isThere_74 : decode cX9_isThere 74 = .ok (.goto (-42), 3) := by decide +kernel
theorem dX9_isThere_77 : decode cX9_isThere 77 = .ok (.iload_n 2, 1) := by decide +kernel
theorem dX9_isThere_78 : decode cX9_isThere 78 = .ok (.ifCond .eq 5, 3) := by decide +kernel
theorem dX9_isThere_81 : decode cX9_isThere 81 = .ok (.iconst 1, 1) := by decide +kernel
theorem dX9_isThere_82 : decode cX9_isThere 82 = .ok (.ireturn, 1) := by decide +kernel
theorem dX9_isThere_83 : decode cX9_isThere 83 = .ok (.iinc 1 1, 3) := by decide +kernel
theorem dX9_isThere_86 : decode cX9_isThere 86 = .ok (.goto (-84), 3) := by decide +kernel
theorem dX9_isThere_89 : decode cX9_isThere 89 = .ok (.iconst 0, 1) := by decide +kernel
theorem dX9_isThere_90 : decode cX9_isThere 90 = .ok (.ireturn, 1) := by decide +kernel
theorem dX9_offer_0 : decode cX9_offer 0 = .ok (.aload_n 0, 1) := by decide +kernel
theorem dX9_offer_1 : decode cX9_offer 1 = .ok (.getfield 84, 3) := by decide +kernel
theorem dX9_offer_4 : decode cX9_offer 4 = .ok (.lneg, 1) := by decide +kernel
theorem dX9_offer_5 : decode cX9_offer 5 = .ok (.ldc2_w 82, 3) := by decide +kernel
theorem dX9_offer_8 : decode cX9_offer 8 = .ok (.lmul, 1) := by decide +kernel
theorem dX9_offer_9 : decode cX9_offer 9 = .ok (.lstore_n 2, 1) := by decide +kernel
theorem dX9_offer_10 : decode cX9_offer 10 = .ok (.iconst 0, 1) := by decide +kernel
theorem dX9_offer_11 : decode cX9_offer 11 = .ok (.istore 4, 2) := by decide +kernel
theorem dX9_offer_13 : decode cX9_offer 13 = .ok (.iload 4, 2) := by decide +kernel
theorem dX9_offer_15 : decode cX9_offer 15 = .ok (.aload_n 0, 1) := by decide +kernel
theorem dX9_offer_16 : decode cX9_offer 16 = .ok (.getfield 66, 3) := by decide +kernel
theorem dX9_offer_19 : decode cX9_offer 19 = .ok (.if_icmp .ge 27, 3) := by decide +kernel
theorem dX9_offer_22 : decode cX9_offer 22 = .ok (.lload_n 2, 1) := by decide +kernel
theorem dX9_offer_23 : decode cX9_offer 23 = .ok (.aload_n 0, 1) := by decide +kernel
theorem dX9_offer_24 : decode cX9_offer 24 = .ok (.getfield 45, 3) := by decide +kernel
theorem dX9_offer_27 : decode cX9_offer 27 = .ok (.iload 4, 2) := by decide +kernel
theorem dX9_offer_29 : decode cX9_offer 29 = .ok (.laload, 1) := by decide +kernel
theorem dX9_offer_30 : decode cX9_offer 30 = .ok (.aload_n 0, 1) := by decide +kernel
theorem dX9_offer_31 : decode cX9_offer 31 = .ok (.getfield 16, 3) := by decide +kernel
theorem dX9_offer_34 : decode cX9_offer 34 = .ok (.iload 4, 2) := by decide +kernel
theorem dX9_offer_36 : decode cX9_offer 36 = .ok (.laload, 1) := by decide +kernel
theorem dX9_offer_37 : decode cX9_offer 37 = .ok (.lmul, 1) := by decide +kernel
theorem dX9_offer_38 : decode cX9_offer 38 = .ok (.ladd, 1) := by decide +kernel
theorem dX9_offer_39 : decode cX9_offer 39 = .ok (.lstore_n 2, 1) := by decide +kernel
theorem dX9_offer_40 : decode cX9_offer 40 = .ok (.iinc 4 1, 3) := by decide +kernel
theorem dX9_offer_43 : decode cX9_offer 43 = .ok (.goto (-30), 3) := by decide +kernel
theorem dX9_offer_46 : decode cX9_offer 46 = .ok (.lload_n 2, 1) := by decide +kernel
theorem dX9_offer_47 : decode cX9_offer 47 = .ok (.lconst 0, 1) := by decide +kernel
theorem dX9_offer_48 : decode cX9_offer 48 = .ok (.lcmp, 1) := by decide +kernel
theorem dX9_offer_49 : decode cX9_offer 49 = .ok (.ifCond .le 10, 3) := by decide +kernel
theorem dX9_offer_52 : decode cX9_offer 52 = .ok (.aload_n 0, 1) := by decide +kernel
theorem dX9_offer_53 : decode cX9_offer 53 = .ok (.invokevirtual 88, 3) := by decide +kernel
theorem dX9_offer_56 : decode cX9_offer 56 = .ok (.ifCond .eq 4, 3) := by decide +kernel
theorem dX9_offer_59 : decode cX9_offer 59 = .ok (.return_, 1) := by decide +kernel
theorem dX9_offer_60 : decode cX9_offer 60 = .ok (.aload_n 0, 1) := by decide +kernel
theorem dX9_offer_61 : decode cX9_offer 61 = .ok (.getfield 69, 3) := by decide +kernel
theorem dX9_offer_64 : decode cX9_offer 64 = .ok (.bipush 40, 2) := by decide +kernel
theorem dX9_offer_66 : decode cX9_offer 66 = .ok (.if_icmp .ne 9, 3) := by decide +kernel
theorem dX9_offer_69 : decode cX9_offer 69 = .ok (.aload_n 0, 1) := by decide +kernel
theorem dX9_offer_70 : decode cX9_offer 70 = .ok (.iconst 0, 1) := by decide +kernel
theorem dX9_offer_71 : decode cX9_offer 71 = .ok (.putfield 41, 3) := by decide +kernel
theorem dX9_offer_74 : decode cX9_offer 74 = .ok (.return_, 1) := by decide +kernel
theorem dX9_offer_75 : decode cX9_offer 75 = .ok (.iconst 0, 1) := by decide +kernel
theorem dX9_offer_76 : decode cX9_offer 76 = .ok (.istore 4, 2) := by decide +kernel
theorem dX9_offer_78 : decode cX9_offer 78 = .ok (.iload 4, 2) := by decide +kernel
theorem dX9_offer_80 : decode cX9_offer 80 = .ok (.bipush 8, 2) := by decide +kernel
theorem dX9_offer_82 : decode cX9_offer 82 = .ok (.if_icmp .ge 31, 3) := by decide +kernel
theorem dX9_offer_85 : decode cX9_offer 85 = .ok (.aload_n 0, 1) := by decide +kernel
theorem dX9_offer_86 : decode cX9_offer 86 = .ok (.getfield 26, 3) := by decide +kernel
theorem dX9_offer_89 : decode cX9_offer 89 = .ok (.bipush 8, 2) := by decide +kernel
theorem dX9_offer_91 : decode cX9_offer 91 = .ok (.aload_n 0, 1) := by decide +kernel
theorem dX9_offer_92 : decode cX9_offer 92 = .ok (.getfield 69, 3) := by decide +kernel
theorem dX9_offer_95 : decode cX9_offer 95 = .ok (.imul, 1) := by decide +kernel
theorem dX9_offer_96 : decode cX9_offer 96 = .ok (.iload 4, 2) := by decide +kernel
theorem dX9_offer_98 : decode cX9_offer 98 = .ok (.iadd, 1) := by decide +kernel
theorem dX9_offer_99 : decode cX9_offer 99 = .ok (.aload_n 0, 1) := by decide +kernel
theorem dX9_offer_100 : decode cX9_offer 100 = .ok (.getfield 45, 3) := by decide +kernel
theorem dX9_offer_103 : decode cX9_offer 103 = .ok (.iload 4, 2) := by decide +kernel
theorem dX9_offer_105 : decode cX9_offer 105 = .ok (.laload, 1) := by decide +kernel
theorem dX9_offer_106 : decode cX9_offer 106 = .ok (.lastore, 1) := by decide +kernel
theorem dX9_offer_107 : decode cX9_offer 107 = .ok (.iinc 4 1, 3) := by decide +kernel
theorem dX9_offer_110 : decode cX9_offer 110 = .ok (.goto (-32), 3) := by decide +kernel
theorem dX9_offer_113 : decode cX9_offer 113 = .ok (.aload_n 0, 1) := by decide +kernel
theorem dX9_offer_114 : decode cX9_offer 114 = .ok (.getfield 29, 3) := by decide +kernel
theorem dX9_offer_117 : decode cX9_offer 117 = .ok (.aload_n 0, 1) := by decide +kernel
theorem dX9_offer_118 : decode cX9_offer 118 = .ok (.getfield 69, 3) := by decide +kernel
theorem dX9_offer_121 : decode cX9_offer 121 = .ok (.aload_n 0, 1) := by decide +kernel
theorem dX9_offer_122 : decode cX9_offer 122 = .ok (.getfield 84, 3) := by decide +kernel
theorem dX9_offer_125 : decode cX9_offer 125 = .ok (.lastore, 1) := by decide +kernel
theorem dX9_offer_126 : decode cX9_offer 126 = .ok (.aload_n 0, 1) := by decide +kernel
theorem dX9_offer_127 : decode cX9_offer 127 = .ok (.getfield 32, 3) := by decide +kernel
theorem dX9_offer_130 : decode cX9_offer 130 = .ok (.aload_n 0, 1) := by decide +kernel
theorem dX9_offer_131 : decode cX9_offer 131 = .ok (.getfield 69, 3) := by decide +kernel
theorem dX9_offer_134 : decode cX9_offer 134 = .ok (.iload_n 1, 1) := by decide +kernel
theorem dX9_offer_135 : decode cX9_offer 135 = .ok (.iastore, 1) := by decide +kernel
theorem dX9_offer_136 : decode cX9_offer 136 = .ok (.aload_n 0, 1) := by decide +kernel
theorem dX9_offer_137 : decode cX9_offer 137 = .ok (.getfield 35, 3) := by decide +kernel
theorem dX9_offer_140 : decode cX9_offer 140 = .ok (.aload_n 0, 1) := by decide +kernel
theorem dX9_offer_141 : decode cX9_offer 141 = .ok (.getfield 69, 3) := by decide +kernel
theorem dX9_offer_144 : decode cX9_offer 144 = .ok (.iconst 0, 1) := by decide +kernel
theorem dX9_offer_145 : decode cX9_offer 145 = .ok (.iastore, 1) := by decide +kernel
theorem dX9_offer_146 : decode cX9_offer 146 = .ok (.iconst 0, 1) := by decide +kernel
theorem dX9_offer_147 : decode cX9_offer 147 = .ok (.istore 4, 2) := by decide +kernel
theorem dX9_offer_149 : decode cX9_offer 149 = .ok (.iload 4, 2) := by decide +kernel
theorem dX9_offer_151 : decode cX9_offer 151 = .ok (.bipush 27, 2) := by decide +kernel
theorem dX9_offer_153 : decode cX9_offer 153 = .ok (.if_icmp .ge 31, 3) := by decide +kernel
theorem dX9_offer_156 : decode cX9_offer 156 = .ok (.aload_n 0, 1) := by decide +kernel
theorem dX9_offer_157 : decode cX9_offer 157 = .ok (.getfield 38, 3) := by decide +kernel
theorem dX9_offer_160 : decode cX9_offer 160 = .ok (.bipush 27, 2) := by decide +kernel
theorem dX9_offer_162 : decode cX9_offer 162 = .ok (.aload_n 0, 1) := by decide +kernel
theorem dX9_offer_163 : decode cX9_offer 163 = .ok (.getfield 69, 3) := by decide +kernel
theorem dX9_offer_166 : decode cX9_offer 166 = .ok (.imul, 1) := by decide +kernel
theorem dX9_offer_167 : decode cX9_offer 167 = .ok (.iload 4, 2) := by decide +kernel
theorem dX9_offer_169 : decode cX9_offer 169 = .ok (.iadd, 1) := by decide +kernel
theorem dX9_offer_170 : decode cX9_offer 170 = .ok (.aload_n 0, 1) := by decide +kernel
theorem dX9_offer_171 : decode cX9_offer 171 = .ok (.getfield 48, 3) := by decide +kernel
theorem dX9_offer_174 : decode cX9_offer 174 = .ok (.iload 4, 2) := by decide +kernel
theorem dX9_offer_176 : decode cX9_offer 176 = .ok (.iaload, 1) := by decide +kernel
theorem dX9_offer_177 : decode cX9_offer 177 = .ok (.iastore, 1) := by decide +kernel
theorem dX9_offer_178 : decode cX9_offer 178 = .ok (.iinc 4 1, 3) := by decide +kernel
theorem dX9_offer_181 : decode cX9_offer 181 = .ok (.goto (-32), 3) := by decide +kernel
theorem dX9_offer_184 : decode cX9_offer 184 = .ok (.aload_n 0, 1) := by decide +kernel
theorem dX9_offer_185 : decode cX9_offer 185 = .ok (.dup, 1) := by decide +kernel
theorem dX9_offer_186 : decode cX9_offer 186 = .ok (.getfield 69, 3) := by decide +kernel
theorem dX9_offer_189 : decode cX9_offer 189 = .ok (.iconst 1, 1) := by decide +kernel
theorem dX9_offer_190 : decode cX9_offer 190 = .ok (.iadd, 1) := by decide +kernel
theorem dX9_offer_191 : decode cX9_offer 191 = .ok (.putfield 69, 3) := by decide +kernel
theorem dX9_offer_194 : decode cX9_offer 194 = .ok (.aload_n 0, 1) := by decide +kernel
theorem dX9_offer_195 : decode cX9_offer 195 = .ok (.dup, 1) := by decide +kernel
theorem dX9_offer_196 : decode cX9_offer 196 = .ok (.getfield 92, 3) := by decide +kernel
theorem dX9_offer_199 : decode cX9_offer 199 = .ok (.iconst 1, 1) := by decide +kernel
theorem dX9_offer_200 : decode cX9_offer 200 = .ok (.iadd, 1) := by decide +kernel
theorem dX9_offer_201 : decode cX9_offer 201 = .ok (.putfield 92, 3) := by decide +kernel
theorem dX9_offer_204 : decode cX9_offer 204 = .ok (.return_, 1) := by decide +kernel
theorem dX9_takeRow_0 : decode cX9_takeRow 0 = .ok (.iconst 0, 1) := by decide +kernel
theorem dX9_takeRow_1 : decode cX9_takeRow 1 = .ok (.istore_n 2, 1) := by decide +kernel
theorem dX9_takeRow_2 : decode cX9_takeRow 2 = .ok (.iload_n 2, 1) := by decide +kernel
theorem dX9_takeRow_3 : decode cX9_takeRow 3 = .ok (.aload_n 0, 1) := by decide +kernel
theorem dX9_takeRow_4 : decode cX9_takeRow 4 = .ok (.getfield 66, 3) := by decide +kernel
theorem dX9_takeRow_7 : decode cX9_takeRow 7 = .ok (.if_icmp .ge 30, 3) := by decide +kernel
theorem dX9_takeRow_10 : decode cX9_takeRow 10 = .ok (.aload_n 0, 1) := by decide +kernel
theorem dX9_takeRow_11 : decode cX9_takeRow 11 = .ok (.getfield 45, 3) := by decide +kernel
theorem dX9_takeRow_14 : decode cX9_takeRow 14 = .ok (.iload_n 2, 1) := by decide +kernel
theorem dX9_takeRow_15 : decode cX9_takeRow 15 = .ok (.dup2, 1) := by decide +kernel
theorem dX9_takeRow_16 : decode cX9_takeRow 16 = .ok (.laload, 1) := by decide +kernel
theorem dX9_takeRow_17 : decode cX9_takeRow 17 = .ok (.aload_n 0, 1) := by decide +kernel
theorem dX9_takeRow_18 : decode cX9_takeRow 18 = .ok (.getfield 23, 3) := by decide +kernel
theorem dX9_takeRow_21 : decode cX9_takeRow 21 = .ok (.bipush 8, 2) := by decide +kernel
theorem dX9_takeRow_23 : decode cX9_takeRow 23 = .ok (.iload_n 1, 1) := by decide +kernel
theorem dX9_takeRow_24 : decode cX9_takeRow 24 = .ok (.imul, 1) := by decide +kernel
theorem dX9_takeRow_25 : decode cX9_takeRow 25 = .ok (.iload_n 2, 1) := by decide +kernel
theorem dX9_takeRow_26 : decode cX9_takeRow 26 = .ok (.iadd, 1) := by decide +kernel
theorem dX9_takeRow_27 : decode cX9_takeRow 27 = .ok (.iaload, 1) := by decide +kernel
theorem dX9_takeRow_28 : decode cX9_takeRow 28 = .ok (.i2l, 1) := by decide +kernel
theorem dX9_takeRow_29 : decode cX9_takeRow 29 = .ok (.ladd, 1) := by decide +kernel
theorem dX9_takeRow_30 : decode cX9_takeRow 30 = .ok (.lastore, 1) := by decide +kernel
theorem dX9_takeRow_31 : decode cX9_takeRow 31 = .ok (.iinc 2 1, 3) := by decide +kernel
theorem dX9_takeRow_34 : decode cX9_takeRow 34 = .ok (.goto (-32), 3) := by decide +kernel
theorem dX9_takeRow_37 : decode cX9_takeRow 37 = .ok (.aload_n 0, 1) := by decide +kernel
theorem dX9_takeRow_38 : decode cX9_takeRow 38 = .ok (.dup, 1) := by decide +kernel
theorem dX9_takeRow_39 : decode cX9_takeRow 39 = .ok (.getfield 84, 3) := by decide +kernel
theorem dX9_takeRow_42 : decode cX9_takeRow 42 = .ok (.aload_n 0, 1) := by decide +kernel
theorem dX9_takeRow_43 : decode cX9_takeRow 43 = .ok (.getfield 20, 3) := by decide +kernel
theorem dX9_takeRow_46 : decode cX9_takeRow 46 = .ok (.iload_n 1, 1) := by decide +kernel
theorem dX9_takeRow_47 : decode cX9_takeRow 47 = .ok (.iaload, 1) := by decide +kernel
theorem dX9_takeRow_48 : decode cX9_takeRow 48 = .ok (.i2l, 1) := by decide +kernel
theorem dX9_takeRow_49 : decode cX9_takeRow 49 = .ok (.ladd, 1) := by decide +kernel
theorem dX9_takeRow_50 : decode cX9_takeRow 50 = .ok (.putfield 84, 3) := by decide +kernel
theorem dX9_takeRow_53 : decode cX9_takeRow 53 = .ok (.aload_n 0, 1) := by decide +kernel
theorem dX9_takeRow_54 : decode cX9_takeRow 54 = .ok (.getfield 48, 3) := by decide +kernel
theorem dX9_takeRow_57 : decode cX9_takeRow 57 = .ok (.iload_n 1, 1) := by decide +kernel
theorem dX9_takeRow_58 : decode cX9_takeRow 58 = .ok (.dup2, 1) := by decide +kernel
theorem dX9_takeRow_59 : decode cX9_takeRow 59 = .ok (.iaload, 1) := by decide +kernel
theorem dX9_takeRow_60 : decode cX9_takeRow 60 = .ok (.iconst 1, 1) := by decide +kernel
theorem dX9_takeRow_61 : decode cX9_takeRow 61 = .ok (.iadd, 1) := by decide +kernel
theorem dX9_takeRow_62 : decode cX9_takeRow 62 = .ok (.iastore, 1) := by decide +kernel
theorem dX9_takeRow_63 : decode cX9_takeRow 63 = .ok (.return_, 1) := by decide +kernel
theorem dX9_takeLow_0 : decode cX9_takeLow 0 = .ok (.aload_n 0, 1) := by decide +kernel
theorem dX9_takeLow_1 : decode cX9_takeLow 1 = .ok (.getfield 45, 3) := by decide +kernel
theorem dX9_takeLow_4 : decode cX9_takeLow 4 = .ok (.iload_n 1, 1) := by decide +kernel
theorem dX9_takeLow_5 : decode cX9_takeLow 5 = .ok (.dup2, 1) := by decide +kernel
theorem dX9_takeLow_6 : decode cX9_takeLow 6 = .ok (.laload, 1) := by decide +kernel
theorem dX9_takeLow_7 : decode cX9_takeLow 7 = .ok (.iload_n 2, 1) := by decide +kernel
theorem dX9_takeLow_8 : decode cX9_takeLow 8 = .ok (.i2l, 1) := by decide +kernel
theorem dX9_takeLow_9 : decode cX9_takeLow 9 = .ok (.lsub, 1) := by decide +kernel
theorem dX9_takeLow_10 : decode cX9_takeLow 10 = .ok (.lastore, 1) := by decide +kernel
theorem dX9_takeLow_11 : decode cX9_takeLow 11 = .ok (.aload_n 0, 1) := by decide +kernel
theorem dX9_takeLow_12 : decode cX9_takeLow 12 = .ok (.dup, 1) := by decide +kernel
theorem dX9_takeLow_13 : decode cX9_takeLow 13 = .ok (.getfield 84, 3) := by decide +kernel
theorem dX9_takeLow_16 : decode cX9_takeLow 16 = .ok (.iload_n 2, 1) := by decide +kernel
theorem dX9_takeLow_17 : decode cX9_takeLow 17 = .ok (.aload_n 0, 1) := by decide +kernel
theorem dX9_takeLow_18 : decode cX9_takeLow 18 = .ok (.getfield 7, 3) := by decide +kernel
theorem dX9_takeLow_21 : decode cX9_takeLow 21 = .ok (.iload_n 1, 1) := by decide +kernel
theorem dX9_takeLow_22 : decode cX9_takeLow 22 = .ok (.iaload, 1) := by decide +kernel
theorem dX9_takeLow_23 : decode cX9_takeLow 23 = .ok (.imul, 1) := by decide +kernel
theorem dX9_takeLow_24 : decode cX9_takeLow 24 = .ok (.i2l, 1) := by decide +kernel
theorem dX9_takeLow_25 : decode cX9_takeLow 25 = .ok (.lsub, 1) := by decide +kernel
theorem dX9_takeLow_26 : decode cX9_takeLow 26 = .ok (.putfield 84, 3) := by decide +kernel
theorem dX9_takeLow_29 : decode cX9_takeLow 29 = .ok (.aload_n 0, 1) := by decide +kernel
theorem dX9_takeLow_30 : decode cX9_takeLow 30 = .ok (.getfield 48, 3) := by decide +kernel
theorem dX9_takeLow_33 : decode cX9_takeLow 33 = .ok (.bipush 10, 2) := by decide +kernel
theorem dX9_takeLow_35 : decode cX9_takeLow 35 = .ok (.iload_n 1, 1) := by decide +kernel
theorem dX9_takeLow_36 : decode cX9_takeLow 36 = .ok (.iadd, 1) := by decide +kernel
theorem dX9_takeLow_37 : decode cX9_takeLow 37 = .ok (.dup2, 1) := by decide +kernel
theorem dX9_takeLow_38 : decode cX9_takeLow 38 = .ok (.iaload, 1) := by decide +kernel
theorem dX9_takeLow_39 : decode cX9_takeLow 39 = .ok (.iload_n 2, 1) := by decide +kernel
theorem dX9_takeLow_40 : decode cX9_takeLow 40 = .ok (.iadd, 1) := by decide +kernel
theorem dX9_takeLow_41 : decode cX9_takeLow 41 = .ok (.iastore, 1) := by decide +kernel
theorem dX9_takeLow_42 : decode cX9_takeLow 42 = .ok (.return_, 1) := by decide +kernel
theorem dX9_takeHigh_0 : decode cX9_takeHigh 0 = .ok (.aload_n 0, 1) := by decide +kernel
theorem dX9_takeHigh_1 : decode cX9_takeHigh 1 = .ok (.getfield 45, 3) := by decide +kernel
theorem dX9_takeHigh_4 : decode cX9_takeHigh 4 = .ok (.iload_n 1, 1) := by decide +kernel
theorem dX9_takeHigh_5 : decode cX9_takeHigh 5 = .ok (.dup2, 1) := by decide +kernel
theorem dX9_takeHigh_6 : decode cX9_takeHigh 6 = .ok (.laload, 1) := by decide +kernel
theorem dX9_takeHigh_7 : decode cX9_takeHigh 7 = .ok (.iload_n 2, 1) := by decide +kernel
theorem dX9_takeHigh_8 : decode cX9_takeHigh 8 = .ok (.i2l, 1) := by decide +kernel
theorem dX9_takeHigh_9 : decode cX9_takeHigh 9 = .ok (.ladd, 1) := by decide +kernel
theorem dX9_takeHigh_10 : decode cX9_takeHigh 10 = .ok (.lastore, 1) := by decide +kernel
theorem dX9_takeHigh_11 : decode cX9_takeHigh 11 = .ok (.aload_n 0, 1) := by decide +kernel
theorem dX9_takeHigh_12 : decode cX9_takeHigh 12 = .ok (.dup, 1) := by decide +kernel
theorem dX9_takeHigh_13 : decode cX9_takeHigh 13 = .ok (.getfield 84, 3) := by decide +kernel
theorem dX9_takeHigh_16 : decode cX9_takeHigh 16 = .ok (.iload_n 2, 1) := by decide +kernel
theorem dX9_takeHigh_17 : decode cX9_takeHigh 17 = .ok (.aload_n 0, 1) := by decide +kernel
theorem dX9_takeHigh_18 : decode cX9_takeHigh 18 = .ok (.getfield 13, 3) := by decide +kernel
theorem dX9_takeHigh_21 : decode cX9_takeHigh 21 = .ok (.iload_n 1, 1) := by decide +kernel
theorem dX9_takeHigh_22 : decode cX9_takeHigh 22 = .ok (.iaload, 1) := by decide +kernel
theorem dX9_takeHigh_23 : decode cX9_takeHigh 23 = .ok (.imul, 1) := by decide +kernel
theorem dX9_takeHigh_24 : decode cX9_takeHigh 24 = .ok (.i2l, 1) := by decide +kernel
theorem dX9_takeHigh_25 : decode cX9_takeHigh 25 = .ok (.ladd, 1) := by decide +kernel
theorem dX9_takeHigh_26 : decode cX9_takeHigh 26 = .ok (.putfield 84, 3) := by decide +kernel
theorem dX9_takeHigh_29 : decode cX9_takeHigh 29 = .ok (.aload_n 0, 1) := by decide +kernel
theorem dX9_takeHigh_30 : decode cX9_takeHigh 30 = .ok (.getfield 48, 3) := by decide +kernel
theorem dX9_takeHigh_33 : decode cX9_takeHigh 33 = .ok (.bipush 18, 2) := by decide +kernel
theorem dX9_takeHigh_35 : decode cX9_takeHigh 35 = .ok (.iload_n 1, 1) := by decide +kernel
theorem dX9_takeHigh_36 : decode cX9_takeHigh 36 = .ok (.iadd, 1) := by decide +kernel
theorem dX9_takeHigh_37 : decode cX9_takeHigh 37 = .ok (.dup2, 1) := by decide +kernel
theorem dX9_takeHigh_38 : decode cX9_takeHigh 38 = .ok (.iaload, 1) := by decide +kernel
theorem dX9_takeHigh_39 : decode cX9_takeHigh 39 = .ok (.iload_n 2, 1) := by decide +kernel
theorem dX9_takeHigh_40 : decode cX9_takeHigh 40 = .ok (.iadd, 1) := by decide +kernel
theorem dX9_takeHigh_41 : decode cX9_takeHigh 41 = .ok (.iastore, 1) := by decide +kernel
theorem dX9_takeHigh_42 : decode cX9_takeHigh 42 = .ok (.return_, 1) := by decide +kernel
theorem dX9_divide_0 : decode cX9_divide 0 = .ok (.iconst 0, 1) := by decide +kernel
theorem dX9_divide_1 : decode cX9_divide 1 = .ok (.istore_n 2, 1) := by decide +kernel
theorem dX9_divide_2 : decode cX9_divide 2 = .ok (.iload_n 2, 1) := by decide +kernel
theorem dX9_divide_3 : decode cX9_divide 3 = .ok (.aload_n 0, 1) := by decide +kernel
theorem dX9_divide_4 : decode cX9_divide 4 = .ok (.getfield 66, 3) := by decide +kernel
theorem dX9_divide_7 : decode cX9_divide 7 = .ok (.if_icmp .ge 26, 3) := by decide +kernel
theorem dX9_divide_10 : decode cX9_divide 10 = .ok (.aload_n 0, 1) := by decide +kernel
theorem dX9_divide_11 : decode cX9_divide 11 = .ok (.getfield 45, 3) := by decide +kernel
theorem dX9_divide_14 : decode cX9_divide 14 = .ok (.iload_n 2, 1) := by decide +kernel
theorem dX9_divide_15 : decode cX9_divide 15 = .ok (.aload_n 0, 1) := by decide +kernel
theorem dX9_divide_16 : decode cX9_divide 16 = .ok (.getfield 45, 3) := by decide +kernel
theorem dX9_divide_19 : decode cX9_divide 19 = .ok (.iload_n 2, 1) := by decide +kernel
theorem dX9_divide_20 : decode cX9_divide 20 = .ok (.laload, 1) := by decide +kernel
theorem dX9_divide_21 : decode cX9_divide 21 = .ok (.iload_n 1, 1) := by decide +kernel
theorem dX9_divide_22 : decode cX9_divide 22 = .ok (.i2l, 1) := by decide +kernel
theorem dX9_divide_23 : decode cX9_divide 23 = .ok (.invokestatic 95, 3) := by decide +kernel
theorem dX9_divide_26 : decode cX9_divide 26 = .ok (.lastore, 1) := by decide +kernel
theorem dX9_divide_27 : decode cX9_divide 27 = .ok (.iinc 2 1, 3) := by decide +kernel
theorem dX9_divide_30 : decode cX9_divide 30 = .ok (.goto (-28), 3) := by decide +kernel
theorem dX9_divide_33 : decode cX9_divide 33 = .ok (.aload_n 0, 1) := by decide +kernel
theorem dX9_divide_34 : decode cX9_divide 34 = .ok (.aload_n 0, 1) := by decide +kernel
theorem dX9_divide_35 : decode cX9_divide 35 = .ok (.getfield 84, 3) := by decide +kernel
theorem dX9_divide_38 : decode cX9_divide 38 = .ok (.iload_n 1, 1) := by decide +kernel
theorem dX9_divide_39 : decode cX9_divide 39 = .ok (.i2l, 1) := by decide +kernel
theorem dX9_divide_40 : decode cX9_divide 40 = .ok (.invokestatic 95, 3) := by decide +kernel
theorem dX9_divide_43 : decode cX9_divide 43 = .ok (.putfield 84, 3) := by decide +kernel
theorem dX9_divide_46 : decode cX9_divide 46 = .ok (.aload_n 0, 1) := by decide +kernel
theorem dX9_divide_47 : decode cX9_divide 47 = .ok (.getfield 48, 3) := by decide +kernel
theorem dX9_divide_50 : decode cX9_divide 50 = .ok (.bipush 26, 2) := by decide +kernel
theorem dX9_divide_52 : decode cX9_divide 52 = .ok (.iload_n 1, 1) := by decide +kernel
theorem dX9_divide_53 : decode cX9_divide 53 = .ok (.iastore, 1) := by decide +kernel
theorem dX9_divide_54 : decode cX9_divide 54 = .ok (.return_, 1) := by decide +kernel
theorem dX9_halves_0 : decode cX9_halves 0 = .ok (.iconst 1, 1) := by decide +kernel
theorem dX9_halves_1 : decode cX9_halves 1 = .ok (.istore_n 1, 1) := by decide +kernel
theorem dX9_halves_2 : decode cX9_halves 2 = .ok (.iload_n 1, 1) := by decide +kernel
theorem dX9_halves_3 : decode cX9_halves 3 = .ok (.iconst 1, 1) := by decide +kernel
theorem dX9_halves_4 : decode cX9_halves 4 = .ok (.aload_n 0, 1) := by decide +kernel
theorem dX9_halves_5 : decode cX9_halves 5 = .ok (.getfield 72, 3) := by decide +kernel
theorem dX9_halves_8 : decode cX9_halves 8 = .ok (.ishl, 1) := by decide +kernel
theorem dX9_halves_9 : decode cX9_halves 9 = .ok (.if_icmp .ge 137, 3) := by decide +kernel
theorem dX9_halves_12 : decode cX9_halves 12 = .ok (.aload_n 0, 1) := by decide +kernel
theorem dX9_halves_13 : decode cX9_halves 13 = .ok (.invokevirtual 101, 3) := by decide +kernel
theorem dX9_halves_16 : decode cX9_halves 16 = .ok (.iconst 0, 1) := by decide +kernel
theorem dX9_halves_17 : decode cX9_halves 17 = .ok (.istore_n 2, 1) := by decide +kernel
theorem dX9_halves_18 : decode cX9_halves 18 = .ok (.iload_n 2, 1) := by decide +kernel
theorem dX9_halves_19 : decode cX9_halves 19 = .ok (.aload_n 0, 1) := by decide +kernel
theorem dX9_halves_20 : decode cX9_halves 20 = .ok (.getfield 72, 3) := by decide +kernel
theorem dX9_halves_23 : decode cX9_halves 23 = .ok (.if_icmp .ge 23, 3) := by decide +kernel
theorem dX9_halves_26 : decode cX9_halves 26 = .ok (.iload_n 1, 1) := by decide +kernel
theorem dX9_halves_27 : decode cX9_halves 27 = .ok (.iload_n 2, 1) := by decide +kernel
theorem dX9_halves_28 : decode cX9_halves 28 = .ok (.ishr, 1) := by decide +kernel
theorem dX9_halves_29 : decode cX9_halves 29 = .ok (.iconst 1, 1) := by decide +kernel
theorem dX9_halves_30 : decode cX9_halves 30 = .ok (.iand, 1) := by decide +kernel
theorem dX9_halves_31 : decode cX9_halves 31 = .ok (.iconst 1, 1) := by decide +kernel
theorem dX9_halves_32 : decode cX9_halves 32 = .ok (.if_icmp .ne 8, 3) := by decide +kernel
theorem dX9_halves_35 : decode cX9_halves 35 = .ok (.aload_n 0, 1) := by decide +kernel
theorem dX9_halves_36 : decode cX9_halves 36 = .ok (.iload_n 2, 1) := by decide +kernel
theorem dX9_halves_37 : decode cX9_halves 37 = .ok (.invokevirtual 104, 3) := by decide +kernel
theorem dX9_halves_40 : decode cX9_halves 40 = .ok (.iinc 2 1, 3) := by decide +kernel
theorem dX9_halves_43 : decode cX9_halves 43 = .ok (.goto (-25), 3) := by decide +kernel
theorem dX9_halves_46 : decode cX9_halves 46 = .ok (.iconst 0, 1) := by decide +kernel
theorem dX9_halves_47 : decode cX9_halves 47 = .ok (.istore_n 2, 1) := by decide +kernel
theorem dX9_halves_48 : decode cX9_halves 48 = .ok (.iload_n 2, 1) := by decide +kernel
theorem dX9_halves_49 : decode cX9_halves 49 = .ok (.aload_n 0, 1) := by decide +kernel
theorem dX9_halves_50 : decode cX9_halves 50 = .ok (.getfield 66, 3) := by decide +kernel
theorem dX9_halves_53 : decode cX9_halves 53 = .ok (.if_icmp .ge 77, 3) := by decide +kernel
theorem dX9_halves_56 : decode cX9_halves 56 = .ok (.aload_n 0, 1) := by decide +kernel
theorem dX9_halves_57 : decode cX9_halves 57 = .ok (.getfield 45, 3) := by decide +kernel
theorem dX9_halves_60 : decode cX9_halves 60 = .ok (.iload_n 2, 1) := by decide +kernel
theorem dX9_halves_61 : decode cX9_halves 61 = .ok (.laload, 1) := by decide +kernel
theorem dX9_halves_62 : decode cX9_halves 62 = .ok (.lconst 1, 1) := by decide +kernel
theorem dX9_halves_63 : decode cX9_halves 63 = .ok (.land, 1) := by decide +kernel
theorem dX9_halves_64 : decode cX9_halves 64 = .ok (.lconst 1, 1) := by decide +kernel
theorem dX9_halves_65 : decode cX9_halves 65 = .ok (.lcmp, 1) := by decide +kernel
theorem dX9_halves_66 : decode cX9_halves 66 = .ok (.ifCond .ne 58, 3) := by decide +kernel
theorem dX9_halves_69 : decode cX9_halves 69 = .ok (.aload_n 0, 1) := by decide +kernel
theorem dX9_halves_70 : decode cX9_halves 70 = .ok (.getfield 13, 3) := by decide +kernel
theorem dX9_halves_73 : decode cX9_halves 73 = .ok (.iload_n 2, 1) := by decide +kernel
theorem dX9_halves_74 : decode cX9_halves 74 = .ok (.iaload, 1) := by decide +kernel
theorem dX9_halves_75 : decode cX9_halves 75 = .ok (.i2l, 1) := by decide +kernel
theorem dX9_halves_76 : decode cX9_halves 76 = .ok (.ldc2_w 82, 3) := by decide +kernel
theorem dX9_halves_79 : decode cX9_halves 79 = .ok (.lmul, 1) := by decide +kernel
theorem dX9_halves_80 : decode cX9_halves 80 = .ok (.aload_n 0, 1) := by decide +kernel
theorem dX9_halves_81 : decode cX9_halves 81 = .ok (.getfield 16, 3) := by decide +kernel
theorem dX9_halves_84 : decode cX9_halves 84 = .ok (.iload_n 2, 1) := by decide +kernel
theorem dX9_halves_85 : decode cX9_halves 85 = .ok (.laload, 1) := by decide +kernel
theorem dX9_halves_86 : decode cX9_halves 86 = .ok (.lsub, 1) := by decide +kernel
theorem dX9_halves_87 : decode cX9_halves 87 = .ok (.aload_n 0, 1) := by decide +kernel
theorem dX9_halves_88 : decode cX9_halves 88 = .ok (.getfield 16, 3) := by decide +kernel
theorem dX9_halves_91 : decode cX9_halves 91 = .ok (.iload_n 2, 1) := by decide +kernel
theorem dX9_halves_92 : decode cX9_halves 92 = .ok (.laload, 1) := by decide +kernel
theorem dX9_halves_93 : decode cX9_halves 93 = .ok (.aload_n 0, 1) := by decide +kernel
theorem dX9_halves_94 : decode cX9_halves 94 = .ok (.getfield 7, 3) := by decide +kernel
theorem dX9_halves_97 : decode cX9_halves 97 = .ok (.iload_n 2, 1) := by decide +kernel
theorem dX9_halves_98 : decode cX9_halves 98 = .ok (.iaload, 1) := by decide +kernel
theorem dX9_halves_99 : decode cX9_halves 99 = .ok (.i2l, 1) := by decide +kernel
theorem dX9_halves_100 : decode cX9_halves 100 = .ok (.ldc2_w 82, 3) := by decide +kernel
theorem dX9_halves_103 : decode cX9_halves 103 = .ok (.lmul, 1) := by decide +kernel
theorem dX9_halves_104 : decode cX9_halves 104 = .ok (.lsub, 1) := by decide +kernel
theorem dX9_halves_105 : decode cX9_halves 105 = .ok (.lcmp, 1) := by decide +kernel
theorem dX9_halves_106 : decode cX9_halves 106 = .ok (.ifCond .gt 12, 3) := by decide +kernel
theorem dX9_halves_109 : decode cX9_halves 109 = .ok (.aload_n 0, 1) := by decide +kernel
theorem dX9_halves_110 : decode cX9_halves 110 = .ok (.iload_n 2, 1) := by decide +kernel
theorem dX9_halves_111 : decode cX9_halves 111 = .ok (.iconst 1, 1) := by decide +kernel
theorem dX9_halves_112 : decode cX9_halves 112 = .ok (.invokevirtual 108, 3) := by decide +kernel
theorem dX9_halves_115 : decode cX9_halves 115 = .ok (.goto 9, 3) := by decide +kernel
theorem dX9_halves_118 : decode cX9_halves 118 = .ok (.aload_n 0, 1) := by decide +kernel
theorem dX9_halves_119 : decode cX9_halves 119 = .ok (.iload_n 2, 1) := by decide +kernel
theorem dX9_halves_120 : decode cX9_halves 120 = .ok (.iconst 1, 1) := by decide +kernel
theorem dX9_halves_121 : decode cX9_halves 121 = .ok (.invokevirtual 112, 3) := by decide +kernel
theorem dX9_halves_124 : decode cX9_halves 124 = .ok (.iinc 2 1, 3) := by decide +kernel
theorem dX9_halves_127 : decode cX9_halves 127 = .ok (.goto (-79), 3) := by decide +kernel
theorem dX9_halves_130 : decode cX9_halves 130 = .ok (.aload_n 0, 1) := by decide +kernel
theorem dX9_halves_131 : decode cX9_halves 131 = .ok (.iconst 2, 1) := by decide +kernel
theorem dX9_halves_132 : decode cX9_halves 132 = .ok (.invokevirtual 115, 3) := by decide +kernel
theorem dX9_halves_135 : decode cX9_halves 135 = .ok (.aload_n 0, 1) := by decide +kernel
theorem dX9_halves_136 : decode cX9_halves 136 = .ok (.iconst 0, 1) := by decide +kernel
theorem dX9_halves_137 : decode cX9_halves 137 = .ok (.invokevirtual 118, 3) := by decide +kernel
theorem dX9_halves_140 : decode cX9_halves 140 = .ok (.iinc 1 1, 3) := by decide +kernel
theorem dX9_halves_143 : decode cX9_halves 143 = .ok (.goto (-141), 3) := by decide +kernel
theorem dX9_halves_146 : decode cX9_halves 146 = .ok (.return_, 1) := by decide +kernel
theorem dX9_rounded_0 : decode cX9_rounded 0 = .ok (.iconst 0, 1) := by decide +kernel
theorem dX9_rounded_1 : decode cX9_rounded 1 = .ok (.istore_n 1, 1) := by decide +kernel
theorem dX9_rounded_2 : decode cX9_rounded 2 = .ok (.iload_n 1, 1) := by decide +kernel
theorem dX9_rounded_3 : decode cX9_rounded 3 = .ok (.aload_n 0, 1) := by decide +kernel
theorem dX9_rounded_4 : decode cX9_rounded 4 = .ok (.getfield 72, 3) := by decide +kernel
theorem dX9_rounded_7 : decode cX9_rounded 7 = .ok (.if_icmp .ge 151, 3) := by decide +kernel
theorem dX9_rounded_10 : decode cX9_rounded 10 = .ok (.iconst 2, 1) := by decide +kernel
theorem dX9_rounded_11 : decode cX9_rounded 11 = .ok (.istore_n 2, 1) := by decide +kernel
theorem dX9_rounded_12 : decode cX9_rounded 12 = .ok (.iload_n 2, 1) := by decide +kernel
theorem dX9_rounded_13 : decode cX9_rounded 13 = .ok (.bipush 9, 2) := by decide +kernel
theorem dX9_rounded_15 : decode cX9_rounded 15 = .ok (.if_icmp .gt 137, 3) := by decide +kernel
theorem dX9_rounded_18 : decode cX9_rounded 18 = .ok (.aload_n 0, 1) := by decide +kernel
theorem dX9_rounded_19 : decode cX9_rounded 19 = .ok (.invokevirtual 101, 3) := by decide +kernel
theorem dX9_rounded_22 : decode cX9_rounded 22 = .ok (.aload_n 0, 1) := by decide +kernel
theorem dX9_rounded_23 : decode cX9_rounded 23 = .ok (.iload_n 1, 1) := by decide +kernel
theorem dX9_rounded_24 : decode cX9_rounded 24 = .ok (.invokevirtual 104, 3) := by decide +kernel
theorem dX9_rounded_27 : decode cX9_rounded 27 = .ok (.iconst 0, 1) := by decide +kernel
theorem dX9_rounded_28 : decode cX9_rounded 28 = .ok (.istore_n 3, 1) := by decide +kernel
theorem dX9_rounded_29 : decode cX9_rounded 29 = .ok (.iload_n 3, 1) := by decide +kernel
theorem dX9_rounded_30 : decode cX9_rounded 30 = .ok (.aload_n 0, 1) := by decide +kernel
theorem dX9_rounded_31 : decode cX9_rounded 31 = .ok (.getfield 66, 3) := by decide +kernel
theorem dX9_rounded_34 : decode cX9_rounded 34 = .ok (.if_icmp .ge 102, 3) := by decide +kernel
theorem dX9_rounded_37 : decode cX9_rounded 37 = .ok (.aload_n 0, 1) := by decide +kernel
theorem dX9_rounded_38 : decode cX9_rounded 38 = .ok (.getfield 45, 3) := by decide +kernel
theorem dX9_rounded_41 : decode cX9_rounded 41 = .ok (.iload_n 3, 1) := by decide +kernel
theorem dX9_rounded_42 : decode cX9_rounded 42 = .ok (.laload, 1) := by decide +kernel
theorem dX9_rounded_43 : decode cX9_rounded 43 = .ok (.iload_n 2, 1) := by decide +kernel
theorem dX9_rounded_44 : decode cX9_rounded 44 = .ok (.i2l, 1) := by decide +kernel
theorem dX9_rounded_45 : decode cX9_rounded 45 = .ok (.invokestatic 121, 3) := by decide +kernel
theorem dX9_rounded_48 : decode cX9_rounded 48 = .ok (.l2i, 1) := by decide +kernel
theorem dX9_rounded_49 : decode cX9_rounded 49 = .ok (.istore 4, 2) := by decide +kernel
theorem dX9_rounded_51 : decode cX9_rounded 51 = .ok (.iload 4, 2) := by decide +kernel
theorem dX9_rounded_53 : decode cX9_rounded 53 = .ok (.ifCond .le 63, 3) := by decide +kernel
theorem dX9_rounded_56 : decode cX9_rounded 56 = .ok (.iload 4, 2) := by decide +kernel
theorem dX9_rounded_58 : decode cX9_rounded 58 = .ok (.i2l, 1) := by decide +kernel
theorem dX9_rounded_59 : decode cX9_rounded 59 = .ok (.aload_n 0, 1) := by decide +kernel
theorem dX9_rounded_60 : decode cX9_rounded 60 = .ok (.getfield 16, 3) := by decide +kernel
theorem dX9_rounded_63 : decode cX9_rounded 63 = .ok (.iload_n 3, 1) := by decide +kernel
theorem dX9_rounded_64 : decode cX9_rounded 64 = .ok (.laload, 1) := by decide +kernel
theorem dX9_rounded_65 : decode cX9_rounded 65 = .ok (.aload_n 0, 1) := by decide +kernel
theorem dX9_rounded_66 : decode cX9_rounded 66 = .ok (.getfield 7, 3) := by decide +kernel
theorem dX9_rounded_69 : decode cX9_rounded 69 = .ok (.iload_n 3, 1) := by decide +kernel
theorem dX9_rounded_70 : decode cX9_rounded 70 = .ok (.iaload, 1) := by decide +kernel
theorem dX9_rounded_71 : decode cX9_rounded 71 = .ok (.i2l, 1) := by decide +kernel
theorem dX9_rounded_72 : decode cX9_rounded 72 = .ok (.ldc2_w 82, 3) := by decide +kernel
theorem dX9_rounded_75 : decode cX9_rounded 75 = .ok (.lmul, 1) := by decide +kernel
theorem dX9_rounded_76 : decode cX9_rounded 76 = .ok (.lsub, 1) := by decide +kernel
theorem dX9_rounded_77 : decode cX9_rounded 77 = .ok (.lmul, 1) := by decide +kernel
theorem dX9_rounded_78 : decode cX9_rounded 78 = .ok (.iload_n 2, 1) := by decide +kernel
theorem dX9_rounded_79 : decode cX9_rounded 79 = .ok (.iload 4, 2) := by decide +kernel
theorem dX9_rounded_81 : decode cX9_rounded 81 = .ok (.isub, 1) := by decide +kernel
theorem dX9_rounded_82 : decode cX9_rounded 82 = .ok (.i2l, 1) := by decide +kernel
theorem dX9_rounded_83 : decode cX9_rounded 83 = .ok (.aload_n 0, 1) := by decide +kernel
theorem dX9_rounded_84 : decode cX9_rounded 84 = .ok (.getfield 13, 3) := by decide +kernel
theorem dX9_rounded_87 : decode cX9_rounded 87 = .ok (.iload_n 3, 1) := by decide +kernel
theorem dX9_rounded_88 : decode cX9_rounded 88 = .ok (.iaload, 1) := by decide +kernel
theorem dX9_rounded_89 : decode cX9_rounded 89 = .ok (.i2l, 1) := by decide +kernel
theorem dX9_rounded_90 : decode cX9_rounded 90 = .ok (.ldc2_w 82, 3) := by decide +kernel
theorem dX9_rounded_93 : decode cX9_rounded 93 = .ok (.lmul, 1) := by decide +kernel
theorem dX9_rounded_94 : decode cX9_rounded 94 = .ok (.aload_n 0, 1) := by decide +kernel
theorem dX9_rounded_95 : decode cX9_rounded 95 = .ok (.getfield 16, 3) := by decide +kernel
theorem dX9_rounded_98 : decode cX9_rounded 98 = .ok (.iload_n 3, 1) := by decide +kernel
theorem dX9_rounded_99 : decode cX9_rounded 99 = .ok (.laload, 1) := by decide +kernel
theorem dX9_rounded_100 : decode cX9_rounded 100 = .ok (.lsub, 1) := by decide +kernel
theorem dX9_rounded_101 : decode cX9_rounded 101 = .ok (.lmul, 1) := by decide +kernel
theorem dX9_rounded_102 : decode cX9_rounded 102 = .ok (.lcmp, 1) := by decide +kernel
theorem dX9_rounded_103 : decode cX9_rounded 103 = .ok (.ifCond .gt 13, 3) := by decide +kernel
theorem dX9_rounded_106 : decode cX9_rounded 106 = .ok (.aload_n 0, 1) := by decide +kernel
theorem dX9_rounded_107 : decode cX9_rounded 107 = .ok (.iload_n 3, 1) := by decide +kernel
theorem dX9_rounded_108 : decode cX9_rounded 108 = .ok (.iload 4, 2) := by decide +kernel
theorem dX9_rounded_110 : decode cX9_rounded 110 = .ok (.invokevirtual 112, 3) := by decide +kernel
theorem dX9_rounded_113 : decode cX9_rounded 113 = .ok (.goto 17, 3) := by decide +kernel
theorem dX9_rounded_116 : decode cX9_rounded 116 = .ok (.iload 4, 2) := by decide +kernel
theorem dX9_rounded_118 : decode cX9_rounded 118 = .ok (.ifCond .le 12, 3) := by decide +kernel
theorem dX9_rounded_121 : decode cX9_rounded 121 = .ok (.aload_n 0, 1) := by decide +kernel
theorem dX9_rounded_122 : decode cX9_rounded 122 = .ok (.iload_n 3, 1) := by decide +kernel
theorem dX9_rounded_123 : decode cX9_rounded 123 = .ok (.iload_n 2, 1) := by decide +kernel
theorem dX9_rounded_124 : decode cX9_rounded 124 = .ok (.iload 4, 2) := by decide +kernel
theorem dX9_rounded_126 : decode cX9_rounded 126 = .ok (.isub, 1) := by decide +kernel
theorem dX9_rounded_127 : decode cX9_rounded 127 = .ok (.invokevirtual 108, 3) := by decide +kernel
theorem dX9_rounded_130 : decode cX9_rounded 130 = .ok (.iinc 3 1, 3) := by decide +kernel
theorem dX9_rounded_133 : decode cX9_rounded 133 = .ok (.goto (-104), 3) := by decide +kernel
theorem dX9_rounded_136 : decode cX9_rounded 136 = .ok (.aload_n 0, 1) := by decide +kernel
theorem dX9_rounded_137 : decode cX9_rounded 137 = .ok (.iload_n 2, 1) := by decide +kernel
theorem dX9_rounded_138 : decode cX9_rounded 138 = .ok (.invokevirtual 115, 3) := by decide +kernel
theorem dX9_rounded_141 : decode cX9_rounded 141 = .ok (.aload_n 0, 1) := by decide +kernel
theorem dX9_rounded_142 : decode cX9_rounded 142 = .ok (.iconst 1, 1) := by decide +kernel
theorem dX9_rounded_143 : decode cX9_rounded 143 = .ok (.invokevirtual 118, 3) := by decide +kernel
theorem dX9_rounded_146 : decode cX9_rounded 146 = .ok (.iinc 2 1, 3) := by decide +kernel
theorem dX9_rounded_149 : decode cX9_rounded 149 = .ok (.goto (-137), 3) := by decide +kernel
theorem dX9_rounded_152 : decode cX9_rounded 152 = .ok (.iinc 1 1, 3) := by decide +kernel
theorem dX9_rounded_155 : decode cX9_rounded 155 = .ok (.goto (-153), 3) := by decide +kernel
theorem dX9_rounded_158 : decode cX9_rounded 158 = .ok (.return_, 1) := by decide +kernel
theorem dX9_findLiterals_0 : decode cX9_findLiterals 0 = .ok (.aload_n 0, 1) := by decide +kernel
theorem dX9_findLiterals_1 : decode cX9_findLiterals 1 = .ok (.iconst 0, 1) := by decide +kernel
theorem dX9_findLiterals_2 : decode cX9_findLiterals 2 = .ok (.putfield 124, 3) := by decide +kernel
theorem dX9_findLiterals_5 : decode cX9_findLiterals 5 = .ok (.aload_n 0, 1) := by decide +kernel
theorem dX9_findLiterals_6 : decode cX9_findLiterals 6 = .ok (.aload_n 0, 1) := by decide +kernel
theorem dX9_findLiterals_7 : decode cX9_findLiterals 7 = .ok (.getfield 20, 3) := by decide +kernel
theorem dX9_findLiterals_10 : decode cX9_findLiterals 10 = .ok (.iload_n 1, 1) := by decide +kernel
theorem dX9_findLiterals_11 : decode cX9_findLiterals 11 = .ok (.iaload, 1) := by decide +kernel
theorem dX9_findLiterals_12 : decode cX9_findLiterals 12 = .ok (.putfield 127, 3) := by decide +kernel
theorem dX9_findLiterals_15 : decode cX9_findLiterals 15 = .ok (.iconst 0, 1) := by decide +kernel
theorem dX9_findLiterals_16 : decode cX9_findLiterals 16 = .ok (.istore_n 2, 1) := by decide +kernel
theorem dX9_findLiterals_17 : decode cX9_findLiterals 17 = .ok (.iload_n 2, 1) := by decide +kernel
theorem dX9_findLiterals_18 : decode cX9_findLiterals 18 = .ok (.aload_n 0, 1) := by decide +kernel
theorem dX9_findLiterals_19 : decode cX9_findLiterals 19 = .ok (.getfield 66, 3) := by decide +kernel
theorem dX9_findLiterals_22 : decode cX9_findLiterals 22 = .ok (.if_icmp .ge 109, 3) := by decide +kernel
theorem dX9_findLiterals_25 : decode cX9_findLiterals 25 = .ok (.aload_n 0, 1) := by decide +kernel
theorem dX9_findLiterals_26 : decode cX9_findLiterals 26 = .ok (.getfield 23, 3) := by decide +kernel
theorem dX9_findLiterals_29 : decode cX9_findLiterals 29 = .ok (.bipush 8, 2) := by decide +kernel
theorem dX9_findLiterals_31 : decode cX9_findLiterals 31 = .ok (.iload_n 1, 1) := by decide +kernel
theorem dX9_findLiterals_32 : decode cX9_findLiterals 32 = .ok (.imul, 1) := by decide +kernel
theorem dX9_findLiterals_33 : decode cX9_findLiterals 33 = .ok (.iload_n 2, 1) := by decide +kernel
theorem dX9_findLiterals_34 : decode cX9_findLiterals 34 = .ok (.iadd, 1) := by decide +kernel
theorem dX9_findLiterals_35 : decode cX9_findLiterals 35 = .ok (.iaload, 1) := by decide +kernel
theorem dX9_findLiterals_36 : decode cX9_findLiterals 36 = .ok (.istore_n 3, 1) := by decide +kernel
theorem dX9_findLiterals_37 : decode cX9_findLiterals 37 = .ok (.aload_n 0, 1) := by decide +kernel
theorem dX9_findLiterals_38 : decode cX9_findLiterals 38 = .ok (.iload_n 2, 1) := by decide +kernel
theorem dX9_findLiterals_39 : decode cX9_findLiterals 39 = .ok (.invokevirtual 130, 3) := by decide +kernel
theorem dX9_findLiterals_42 : decode cX9_findLiterals 42 = .ok (.ifCond .ne 21, 3) := by decide +kernel
theorem dX9_findLiterals_45 : decode cX9_findLiterals 45 = .ok (.aload_n 0, 1) := by decide +kernel
theorem dX9_findLiterals_46 : decode cX9_findLiterals 46 = .ok (.dup, 1) := by decide +kernel
theorem dX9_findLiterals_47 : decode cX9_findLiterals 47 = .ok (.getfield 127, 3) := by decide +kernel
theorem dX9_findLiterals_50 : decode cX9_findLiterals 50 = .ok (.aload_n 0, 1) := by decide +kernel
theorem dX9_findLiterals_51 : decode cX9_findLiterals 51 = .ok (.iload_n 1, 1) := by decide +kernel
theorem dX9_findLiterals_52 : decode cX9_findLiterals 52 = .ok (.iload_n 2, 1) := by decide +kernel
theorem dX9_findLiterals_53 : decode cX9_findLiterals 53 = .ok (.invokevirtual 133, 3) := by decide +kernel
theorem dX9_findLiterals_56 : decode cX9_findLiterals 56 = .ok (.isub, 1) := by decide +kernel
theorem dX9_findLiterals_57 : decode cX9_findLiterals 57 = .ok (.putfield 127, 3) := by decide +kernel
theorem dX9_findLiterals_60 : decode cX9_findLiterals 60 = .ok (.goto 65, 3) := by decide +kernel
theorem dX9_findLiterals_63 : decode cX9_findLiterals 63 = .ok (.iload_n 3, 1) := by decide +kernel
theorem dX9_findLiterals_64 : decode cX9_findLiterals 64 = .ok (.ifCond .eq 61, 3) := by decide +kernel
theorem dX9_findLiterals_67 : decode cX9_findLiterals 67 = .ok (.aload_n 0, 1) := by decide +kernel
theorem dX9_findLiterals_68 : decode cX9_findLiterals 68 = .ok (.getfield 51, 3) := by decide +kernel
theorem dX9_findLiterals_71 : decode cX9_findLiterals 71 = .ok (.aload_n 0, 1) := by decide +kernel
theorem dX9_findLiterals_72 : decode cX9_findLiterals 72 = .ok (.getfield 124, 3) := by decide +kernel
theorem dX9_findLiterals_75 : decode cX9_findLiterals 75 = .ok (.iload_n 2, 1) := by decide +kernel
theorem dX9_findLiterals_76 : decode cX9_findLiterals 76 = .ok (.iastore, 1) := by decide +kernel
theorem dX9_findLiterals_77 : decode cX9_findLiterals 77 = .ok (.aload_n 0, 1) := by decide +kernel
theorem dX9_findLiterals_78 : decode cX9_findLiterals 78 = .ok (.getfield 54, 3) := by decide +kernel
theorem dX9_findLiterals_81 : decode cX9_findLiterals 81 = .ok (.aload_n 0, 1) := by decide +kernel
theorem dX9_findLiterals_82 : decode cX9_findLiterals 82 = .ok (.getfield 124, 3) := by decide +kernel
theorem dX9_findLiterals_85 : decode cX9_findLiterals 85 = .ok (.iload_n 3, 1) := by decide +kernel
theorem dX9_findLiterals_86 : decode cX9_findLiterals 86 = .ok (.ifCond .ge 8, 3) := by decide +kernel
theorem dX9_findLiterals_89 : decode cX9_findLiterals 89 = .ok (.iload_n 3, 1) := by decide +kernel
theorem dX9_findLiterals_90 : decode cX9_findLiterals 90 = .ok (.ineg, 1) := by decide +kernel
theorem dX9_findLiterals_91 : decode cX9_findLiterals 91 = .ok (.goto 4, 3) := by decide +kernel
theorem dX9_findLiterals_94 : decode cX9_findLiterals 94 = .ok (.iload_n 3, 1) := by decide +kernel
theorem dX9_findLiterals_95 : decode cX9_findLiterals 95 = .ok (.iastore, 1) := by decide +kernel
theorem dX9_findLiterals_96 : decode cX9_findLiterals 96 = .ok (.aload_n 0, 1) := by decide +kernel
theorem dX9_findLiterals_97 : decode cX9_findLiterals 97 = .ok (.dup, 1) := by decide +kernel
theorem dX9_findLiterals_98 : decode cX9_findLiterals 98 = .ok (.getfield 127, 3) := by decide +kernel
theorem dX9_findLiterals_101 : decode cX9_findLiterals 101 = .ok (.iload_n 3, 1) := by decide +kernel
theorem dX9_findLiterals_102 : decode cX9_findLiterals 102 = .ok (.ifCond .ge 8, 3) := by decide +kernel
theorem dX9_findLiterals_105 : decode cX9_findLiterals 105 = .ok (.iload_n 3, 1) := by decide +kernel
theorem dX9_findLiterals_106 : decode cX9_findLiterals 106 = .ok (.ineg, 1) := by decide +kernel
theorem dX9_findLiterals_107 : decode cX9_findLiterals 107 = .ok (.goto 4, 3) := by decide +kernel
theorem dX9_findLiterals_110 : decode cX9_findLiterals 110 = .ok (.iconst 0, 1) := by decide +kernel
theorem dX9_findLiterals_111 : decode cX9_findLiterals 111 = .ok (.iadd, 1) := by decide +kernel
theorem dX9_findLiterals_112 : decode cX9_findLiterals 112 = .ok (.putfield 127, 3) := by decide +kernel
theorem dX9_findLiterals_115 : decode cX9_findLiterals 115 = .ok (.aload_n 0, 1) := by decide +kernel
theorem dX9_findLiterals_116 : decode cX9_findLiterals 116 = .ok (.dup, 1) := by decide +kernel
theorem dX9_findLiterals_117 : decode cX9_findLiterals 117 = .ok (.getfield 124, 3) := by decide +kernel
theorem dX9_findLiterals_120 : decode cX9_findLiterals 120 = .ok (.iconst 1, 1) := by decide +kernel
theorem dX9_findLiterals_121 : decode cX9_findLiterals 121 = .ok (.iadd, 1) := by decide +kernel
theorem dX9_findLiterals_122 : decode cX9_findLiterals 122 = .ok (.putfield 124, 3) := by decide +kernel
theorem dX9_findLiterals_125 : decode cX9_findLiterals 125 = .ok (.iinc 2 1, 3) := by decide +kernel
theorem dX9_findLiterals_128 : decode cX9_findLiterals 128 = .ok (.goto (-111), 3) := by decide +kernel
theorem dX9_findLiterals_131 : decode cX9_findLiterals 131 = .ok (.return_, 1) := by decide +kernel
theorem dX9_weightOf_0 : decode cX9_weightOf 0 = .ok (.iconst 0, 1) := by decide +kernel
theorem dX9_weightOf_1 : decode cX9_weightOf 1 = .ok (.istore_n 2, 1) := by decide +kernel
theorem dX9_weightOf_2 : decode cX9_weightOf 2 = .ok (.iconst 0, 1) := by decide +kernel
theorem dX9_weightOf_3 : decode cX9_weightOf 3 = .ok (.istore_n 3, 1) := by decide +kernel
theorem dX9_weightOf_4 : decode cX9_weightOf 4 = .ok (.iload_n 3, 1) := by decide +kernel
theorem dX9_weightOf_5 : decode cX9_weightOf 5 = .ok (.aload_n 0, 1) := by decide +kernel
theorem dX9_weightOf_6 : decode cX9_weightOf 6 = .ok (.getfield 124, 3) := by decide +kernel
theorem dX9_weightOf_9 : decode cX9_weightOf 9 = .ok (.if_icmp .ge 31, 3) := by decide +kernel
theorem dX9_weightOf_12 : decode cX9_weightOf 12 = .ok (.iload_n 2, 1) := by decide +kernel
theorem dX9_weightOf_13 : decode cX9_weightOf 13 = .ok (.iload_n 1, 1) := by decide +kernel
theorem dX9_weightOf_14 : decode cX9_weightOf 14 = .ok (.iload_n 3, 1) := by decide +kernel
theorem dX9_weightOf_15 : decode cX9_weightOf 15 = .ok (.ishr, 1) := by decide +kernel
theorem dX9_weightOf_16 : decode cX9_weightOf 16 = .ok (.iconst 1, 1) := by decide +kernel
theorem dX9_weightOf_17 : decode cX9_weightOf 17 = .ok (.iand, 1) := by decide +kernel
theorem dX9_weightOf_18 : decode cX9_weightOf 18 = .ok (.iconst 1, 1) := by decide +kernel
theorem dX9_weightOf_19 : decode cX9_weightOf 19 = .ok (.if_icmp .ne 12, 3) := by decide +kernel
theorem dX9_weightOf_22 : decode cX9_weightOf 22 = .ok (.aload_n 0, 1) := by decide +kernel
theorem dX9_weightOf_23 : decode cX9_weightOf 23 = .ok (.getfield 54, 3) := by decide +kernel
theorem dX9_weightOf_26 : decode cX9_weightOf 26 = .ok (.iload_n 3, 1) := by decide +kernel
theorem dX9_weightOf_27 : decode cX9_weightOf 27 = .ok (.iaload, 1) := by decide +kernel
theorem dX9_weightOf_28 : decode cX9_weightOf 28 = .ok (.goto 4, 3) := by decide +kernel
theorem dX9_weightOf_31 : decode cX9_weightOf 31 = .ok (.iconst 0, 1) := by decide +kernel
theorem dX9_weightOf_32 : decode cX9_weightOf 32 = .ok (.iadd, 1) := by decide +kernel
theorem dX9_weightOf_33 : decode cX9_weightOf 33 = .ok (.istore_n 2, 1) := by decide +kernel
theorem dX9_weightOf_34 : decode cX9_weightOf 34 = .ok (.iinc 3 1, 3) := by decide +kernel
theorem dX9_weightOf_37 : decode cX9_weightOf 37 = .ok (.goto (-33), 3) := by decide +kernel
theorem dX9_weightOf_40 : decode cX9_weightOf 40 = .ok (.iload_n 2, 1) := by decide +kernel
theorem dX9_weightOf_41 : decode cX9_weightOf 41 = .ok (.ireturn, 1) := by decide +kernel
theorem dX9_isCover_0 : decode cX9_isCover 0 = .ok (.aload_n 0, 1) := by decide +kernel
theorem dX9_isCover_1 : decode cX9_isCover 1 = .ok (.iload_n 1, 1) := by decide +kernel
theorem dX9_isCover_2 : decode cX9_isCover 2 = .ok (.invokevirtual 137, 3) := by decide +kernel
theorem dX9_isCover_5 : decode cX9_isCover 5 = .ok (.istore_n 2, 1) := by decide +kernel
theorem dX9_isCover_6 : decode cX9_isCover 6 = .ok (.iload_n 2, 1) := by decide +kernel
theorem dX9_isCover_7 : decode cX9_isCover 7 = .ok (.aload_n 0, 1) := by decide +kernel
theorem dX9_isCover_8 : decode cX9_isCover 8 = .ok (.getfield 127, 3) := by decide +kernel
theorem dX9_isCover_11 : decode cX9_isCover 11 = .ok (.if_icmp .le 7, 3) := by decide +kernel
theorem dX9_isCover_14 : decode cX9_isCover 14 = .ok (.iconst 1, 1) := by decide +kernel
theorem dX9_isCover_15 : decode cX9_isCover 15 = .ok (.goto 4, 3) := by decide +kernel
theorem dX9_isCover_18 : decode cX9_isCover 18 = .ok (.iconst 0, 1) := by decide +kernel
theorem dX9_isCover_19 : decode cX9_isCover 19 = .ok (.istore_n 3, 1) := by decide +kernel
theorem dX9_isCover_20 : decode cX9_isCover 20 = .ok (.iconst 0, 1) := by decide +kernel
theorem dX9_isCover_21 : decode cX9_isCover 21 = .ok (.istore 4, 2) := by decide +kernel
theorem dX9_isCover_23 : decode cX9_isCover 23 = .ok (.iload 4, 2) := by decide +kernel
theorem dX9_isCover_25 : decode cX9_isCover 25 = .ok (.aload_n 0, 1) := by decide +kernel
theorem dX9_isCover_26 : decode cX9_isCover 26 = .ok (.getfield 124, 3) := by decide +kernel
theorem dX9_isCover_29 : decode cX9_isCover 29 = .ok (.if_icmp .ge 44, 3) := by decide +kernel
theorem dX9_isCover_32 : decode cX9_isCover 32 = .ok (.iload_n 3, 1) := by decide +kernel
theorem dX9_isCover_33 : decode cX9_isCover 33 = .ok (.ifCond .eq 32, 3) := by decide +kernel
theorem dX9_isCover_36 : decode cX9_isCover 36 = .ok (.iload_n 1, 1) := by decide +kernel
theorem dX9_isCover_37 : decode cX9_isCover 37 = .ok (.iload 4, 2) := by decide +kernel
theorem dX9_isCover_39 : decode cX9_isCover 39 = .ok (.ishr, 1) := by decide +kernel
theorem dX9_isCover_40 : decode cX9_isCover 40 = .ok (.iconst 1, 1) := by decide +kernel
theorem dX9_isCover_41 : decode cX9_isCover 41 = .ok (.iand, 1) := by decide +kernel
theorem dX9_isCover_42 : decode cX9_isCover 42 = .ok (.ifCond .eq 19, 3) := by decide +kernel
theorem dX9_isCover_45 : decode cX9_isCover 45 = .ok (.iload_n 2, 1) := by decide +kernel
theorem dX9_isCover_46 : decode cX9_isCover 46 = .ok (.aload_n 0, 1) := by decide +kernel
theorem dX9_isCover_47 : decode cX9_isCover 47 = .ok (.getfield 54, 3) := by decide +kernel
theorem dX9_isCover_50 : decode cX9_isCover 50 = .ok (.iload 4, 2) := by decide +kernel
theorem dX9_isCover_52 : decode cX9_isCover 52 = .ok (.iaload, 1) := by decide +kernel
theorem dX9_isCover_53 : decode cX9_isCover 53 = .ok (.isub, 1) := by decide +kernel
theorem dX9_isCover_54 : decode cX9_isCover 54 = .ok (.aload_n 0, 1) := by decide +kernel
theorem dX9_isCover_55 : decode cX9_isCover 55 = .ok (.getfield 127, 3) := by decide +kernel
theorem dX9_isCover_58 : decode cX9_isCover 58 = .ok (.if_icmp .gt 7, 3) := by decide +kernel
theorem dX9_isCover_61 : decode cX9_isCover 61 = .ok (.iconst 1, 1) := by decide +kernel
theorem dX9_isCover_62 : decode cX9_isCover 62 = .ok (.goto 4, 3) := by decide +kernel
theorem dX9_isCover_65 : decode cX9_isCover 65 = .ok (.iconst 0, 1) := by decide +kernel
theorem dX9_isCover_66 : decode cX9_isCover 66 = .ok (.istore_n 3, 1) := by decide +kernel
theorem dX9_isCover_67 : decode cX9_isCover 67 = .ok (.iinc 4 1, 3) := by decide +kernel
theorem dX9_isCover_70 : decode cX9_isCover 70 = .ok (.goto (-47), 3) := by decide +kernel
theorem dX9_isCover_73 : decode cX9_isCover 73 = .ok (.iload_n 3, 1) := by decide +kernel
theorem dX9_isCover_74 : decode cX9_isCover 74 = .ok (.ireturn, 1) := by decide +kernel
theorem dX9_greatest_0 : decode cX9_greatest 0 = .ok (.iconst 0, 1) := by decide +kernel
theorem dX9_greatest_1 : decode cX9_greatest 1 = .ok (.istore_n 3, 1) := by decide +kernel
theorem dX9_greatest_2 : decode cX9_greatest 2 = .ok (.iconst 0, 1) := by decide +kernel
theorem dX9_greatest_3 : decode cX9_greatest 3 = .ok (.istore 4, 2) := by decide +kernel
theorem dX9_greatest_5 : decode cX9_greatest 5 = .ok (.iload 4, 2) := by decide +kernel
theorem dX9_greatest_7 : decode cX9_greatest 7 = .ok (.iconst 1, 1) := by decide +kernel
theorem dX9_greatest_8 : decode cX9_greatest 8 = .ok (.aload_n 0, 1) := by decide +kernel
theorem dX9_greatest_9 : decode cX9_greatest 9 = .ok (.getfield 124, 3) := by decide +kernel
theorem dX9_greatest_12 : decode cX9_greatest 12 = .ok (.ishl, 1) := by decide +kernel
theorem dX9_greatest_13 : decode cX9_greatest 13 = .ok (.if_icmp .ge 83, 3) := by decide +kernel
theorem dX9_greatest_16 : decode cX9_greatest 16 = .ok (.iload 4, 2) := by decide +kernel
theorem dX9_greatest_18 : decode cX9_greatest 18 = .ok (.iload_n 1, 1) := by decide +kernel
theorem dX9_greatest_19 : decode cX9_greatest 19 = .ok (.iand, 1) := by decide +kernel
theorem dX9_greatest_20 : decode cX9_greatest 20 = .ok (.iload 4, 2) := by decide +kernel
theorem dX9_greatest_22 : decode cX9_greatest 22 = .ok (.if_icmp .ne 68, 3) := by decide +kernel
theorem dX9_greatest_25 : decode cX9_greatest 25 = .ok (.aload_n 0, 1) := by decide +kernel
theorem dX9_greatest_26 : decode cX9_greatest 26 = .ok (.iload 4, 2) := by decide +kernel
theorem dX9_greatest_28 : decode cX9_greatest 28 = .ok (.invokevirtual 137, 3) := by decide +kernel
theorem dX9_greatest_31 : decode cX9_greatest 31 = .ok (.iload_n 2, 1) := by decide +kernel
theorem dX9_greatest_32 : decode cX9_greatest 32 = .ok (.if_icmp .gt 58, 3) := by decide +kernel
theorem dX9_greatest_35 : decode cX9_greatest 35 = .ok (.iconst 0, 1) := by decide +kernel
theorem dX9_greatest_36 : decode cX9_greatest 36 = .ok (.istore 5, 2) := by decide +kernel
theorem dX9_greatest_38 : decode cX9_greatest 38 = .ok (.iconst 0, 1) := by decide +kernel
theorem dX9_greatest_39 : decode cX9_greatest 39 = .ok (.istore 6, 2) := by decide +kernel
theorem dX9_greatest_41 : decode cX9_greatest 41 = .ok (.iload 6, 2) := by decide +kernel
theorem dX9_greatest_43 : decode cX9_greatest 43 = .ok (.aload_n 0, 1) := by decide +kernel
theorem dX9_greatest_44 : decode cX9_greatest 44 = .ok (.getfield 124, 3) := by decide +kernel
theorem dX9_greatest_47 : decode cX9_greatest 47 = .ok (.if_icmp .ge 36, 3) := by decide +kernel
theorem dX9_greatest_50 : decode cX9_greatest 50 = .ok (.iload 5, 2) := by decide +kernel
theorem dX9_greatest_52 : decode cX9_greatest 52 = .ok (.iload 4, 2) := by decide +kernel
theorem dX9_greatest_54 : decode cX9_greatest 54 = .ok (.iload 6, 2) := by decide +kernel
theorem dX9_greatest_56 : decode cX9_greatest 56 = .ok (.ishr, 1) := by decide +kernel
theorem dX9_greatest_57 : decode cX9_greatest 57 = .ok (.iconst 1, 1) := by decide +kernel
theorem dX9_greatest_58 : decode cX9_greatest 58 = .ok (.iand, 1) := by decide +kernel
theorem dX9_greatest_59 : decode cX9_greatest 59 = .ok (.iconst 1, 1) := by decide +kernel
theorem dX9_greatest_60 : decode cX9_greatest 60 = .ok (.if_icmp .ne 13, 3) := by decide +kernel
theorem dX9_greatest_63 : decode cX9_greatest 63 = .ok (.aload_n 0, 1) := by decide +kernel
theorem dX9_greatest_64 : decode cX9_greatest 64 = .ok (.getfield 57, 3) := by decide +kernel
theorem dX9_greatest_67 : decode cX9_greatest 67 = .ok (.iload 6, 2) := by decide +kernel
theorem dX9_greatest_69 : decode cX9_greatest 69 = .ok (.iaload, 1) := by decide +kernel
theorem dX9_greatest_70 : decode cX9_greatest 70 = .ok (.goto 4, 3) := by decide +kernel
theorem dX9_greatest_73 : decode cX9_greatest 73 = .ok (.iconst 0, 1) := by decide +kernel
theorem dX9_greatest_74 : decode cX9_greatest 74 = .ok (.iadd, 1) := by decide +kernel
theorem dX9_greatest_75 : decode cX9_greatest 75 = .ok (.istore 5, 2) := by decide +kernel
theorem dX9_greatest_77 : decode cX9_greatest 77 = .ok (.iinc 6 1, 3) := by decide +kernel
theorem dX9_greatest_80 : decode cX9_greatest 80 = .ok (.goto (-39), 3) := by decide +kernel
theorem dX9_greatest_83 : decode cX9_greatest 83 = .ok (.iload_n 3, 1) := by decide +kernel
theorem dX9_greatest_84 : decode cX9_greatest 84 = .ok (.iload 5, 2) := by decide +kernel
theorem dX9_greatest_86 : decode cX9_greatest 86 = .ok (.invokestatic 141, 3) := by decide +kernel
theorem dX9_greatest_89 : decode cX9_greatest 89 = .ok (.istore_n 3, 1) := by decide +kernel
theorem dX9_greatest_90 : decode cX9_greatest 90 = .ok (.iinc 4 1, 3) := by decide +kernel
theorem dX9_greatest_93 : decode cX9_greatest 93 = .ok (.goto (-88), 3) := by decide +kernel
theorem dX9_greatest_96 : decode cX9_greatest 96 = .ok (.iload_n 3, 1) := by decide +kernel
theorem dX9_greatest_97 : decode cX9_greatest 97 = .ok (.ireturn, 1) := by decide +kernel
theorem dX9_cover_0 : decode cX9_cover 0 = .ok (.iconst 0, 1) := by decide +kernel
theorem dX9_cover_1 : decode cX9_cover 1 = .ok (.istore_n 3, 1) := by decide +kernel
theorem dX9_cover_2 : decode cX9_cover 2 = .ok (.iconst 0, 1) := by decide +kernel
theorem dX9_cover_3 : decode cX9_cover 3 = .ok (.istore 4, 2) := by decide +kernel
theorem dX9_cover_5 : decode cX9_cover 5 = .ok (.iload 4, 2) := by decide +kernel
theorem dX9_cover_7 : decode cX9_cover 7 = .ok (.aload_n 0, 1) := by decide +kernel
theorem dX9_cover_8 : decode cX9_cover 8 = .ok (.getfield 124, 3) := by decide +kernel
theorem dX9_cover_11 : decode cX9_cover 11 = .ok (.if_icmp .ge 32, 3) := by decide +kernel
theorem dX9_cover_14 : decode cX9_cover 14 = .ok (.aload_n 0, 1) := by decide +kernel
theorem dX9_cover_15 : decode cX9_cover 15 = .ok (.getfield 57, 3) := by decide +kernel
theorem dX9_cover_18 : decode cX9_cover 18 = .ok (.iload 4, 2) := by decide +kernel
theorem dX9_cover_20 : decode cX9_cover 20 = .ok (.iload_n 2, 1) := by decide +kernel
theorem dX9_cover_21 : decode cX9_cover 21 = .ok (.iload 4, 2) := by decide +kernel
theorem dX9_cover_23 : decode cX9_cover 23 = .ok (.ishr, 1) := by decide +kernel
theorem dX9_cover_24 : decode cX9_cover 24 = .ok (.iconst 1, 1) := by decide +kernel
theorem dX9_cover_25 : decode cX9_cover 25 = .ok (.iand, 1) := by decide +kernel
theorem dX9_cover_26 : decode cX9_cover 26 = .ok (.iastore, 1) := by decide +kernel
theorem dX9_cover_27 : decode cX9_cover 27 = .ok (.iload_n 3, 1) := by decide +kernel
theorem dX9_cover_28 : decode cX9_cover 28 = .ok (.aload_n 0, 1) := by decide +kernel
theorem dX9_cover_29 : decode cX9_cover 29 = .ok (.getfield 57, 3) := by decide +kernel
theorem dX9_cover_32 : decode cX9_cover 32 = .ok (.iload 4, 2) := by decide +kernel
theorem dX9_cover_34 : decode cX9_cover 34 = .ok (.iaload, 1) := by decide +kernel
theorem dX9_cover_35 : decode cX9_cover 35 = .ok (.iadd, 1) := by decide +kernel
theorem dX9_cover_36 : decode cX9_cover 36 = .ok (.istore_n 3, 1) := by decide +kernel
theorem dX9_cover_37 : decode cX9_cover 37 = .ok (.iinc 4 1, 3) := by decide +kernel
theorem dX9_cover_40 : decode cX9_cover 40 = .ok (.goto (-35), 3) := by decide +kernel
theorem dX9_cover_43 : decode cX9_cover 43 = .ok (.iload_n 2, 1) := by decide +kernel
theorem dX9_cover_44 : decode cX9_cover 44 = .ok (.istore 4, 2) := by decide +kernel
theorem dX9_cover_46 : decode cX9_cover 46 = .ok (.iconst 0, 1) := by decide +kernel
theorem dX9_cover_47 : decode cX9_cover 47 = .ok (.istore 5, 2) := by decide +kernel
theorem dX9_cover_49 : decode cX9_cover 49 = .ok (.iload 5, 2) := by decide +kernel
theorem dX9_cover_51 : decode cX9_cover 51 = .ok (.aload_n 0, 1) := by decide +kernel
theorem dX9_cover_52 : decode cX9_cover 52 = .ok (.getfield 124, 3) := by decide +kernel
theorem dX9_cover_55 : decode cX9_cover 55 = .ok (.if_icmp .ge 71, 3) := by decide +kernel
theorem dX9_cover_58 : decode cX9_cover 58 = .ok (.iload_n 2, 1) := by decide +kernel
theorem dX9_cover_59 : decode cX9_cover 59 = .ok (.iload 5, 2) := by decide +kernel
theorem dX9_cover_61 : decode cX9_cover 61 = .ok (.ishr, 1) := by decide +kernel
theorem dX9_cover_62 : decode cX9_cover 62 = .ok (.iconst 1, 1) := by decide +kernel
theorem dX9_cover_63 : decode cX9_cover 63 = .ok (.iand, 1) := by decide +kernel
theorem dX9_cover_64 : decode cX9_cover 64 = .ok (.ifCond .ne 56, 3) := by decide +kernel
theorem dX9_cover_67 : decode cX9_cover 67 = .ok (.aload_n 0, 1) := by decide +kernel
theorem dX9_cover_68 : decode cX9_cover 68 = .ok (.getfield 127, 3) := by decide +kernel
theorem dX9_cover_71 : decode cX9_cover 71 = .ok (.aload_n 0, 1) := by decide +kernel
theorem dX9_cover_72 : decode cX9_cover 72 = .ok (.getfield 54, 3) := by decide +kernel
theorem dX9_cover_75 : decode cX9_cover 75 = .ok (.iload 5, 2) := by decide +kernel
theorem dX9_cover_77 : decode cX9_cover 77 = .ok (.iaload, 1) := by decide +kernel
theorem dX9_cover_78 : decode cX9_cover 78 = .ok (.isub, 1) := by decide +kernel
theorem dX9_cover_79 : decode cX9_cover 79 = .ok (.istore 6, 2) := by decide +kernel
theorem dX9_cover_81 : decode cX9_cover 81 = .ok (.aload_n 0, 1) := by decide +kernel
theorem dX9_cover_82 : decode cX9_cover 82 = .ok (.getfield 57, 3) := by decide +kernel
theorem dX9_cover_85 : decode cX9_cover 85 = .ok (.iload 5, 2) := by decide +kernel
theorem dX9_cover_87 : decode cX9_cover 87 = .ok (.iload 6, 2) := by decide +kernel
theorem dX9_cover_89 : decode cX9_cover 89 = .ok (.ifCond .ge 9, 3) := by decide +kernel
theorem dX9_cover_92 : decode cX9_cover 92 = .ok (.iload_n 3, 1) := by decide +kernel
theorem dX9_cover_93 : decode cX9_cover 93 = .ok (.iconst 1, 1) := by decide +kernel
theorem dX9_cover_94 : decode cX9_cover 94 = .ok (.isub, 1) := by decide +kernel
theorem dX9_cover_95 : decode cX9_cover 95 = .ok (.goto 15, 3) := by decide +kernel
theorem dX9_cover_98 : decode cX9_cover 98 = .ok (.iload_n 3, 1) := by decide +kernel
theorem dX9_cover_99 : decode cX9_cover 99 = .ok (.iconst 1, 1) := by decide +kernel
theorem dX9_cover_100 : decode cX9_cover 100 = .ok (.isub, 1) := by decide +kernel
theorem dX9_cover_101 : decode cX9_cover 101 = .ok (.aload_n 0, 1) := by decide +kernel
theorem dX9_cover_102 : decode cX9_cover 102 = .ok (.iload 4, 2) := by decide +kernel
theorem dX9_cover_104 : decode cX9_cover 104 = .ok (.iload 6, 2) := by decide +kernel
theorem dX9_cover_106 : decode cX9_cover 106 = .ok (.invokevirtual 144, 3) := by decide +kernel
theorem dX9_cover_109 : decode cX9_cover 109 = .ok (.isub, 1) := by decide +kernel
theorem dX9_cover_110 : decode cX9_cover 110 = .ok (.iastore, 1) := by decide +kernel
theorem dX9_cover_111 : decode cX9_cover 111 = .ok (.iload 4, 2) := by decide +kernel
theorem dX9_cover_113 : decode cX9_cover 113 = .ok (.iconst 1, 1) := by decide +kernel
theorem dX9_cover_114 : decode cX9_cover 114 = .ok (.iload 5, 2) := by decide +kernel
theorem dX9_cover_116 : decode cX9_cover 116 = .ok (.ishl, 1) := by decide +kernel
theorem dX9_cover_117 : decode cX9_cover 117 = .ok (.ior, 1) := by decide +kernel
theorem dX9_cover_118 : decode cX9_cover 118 = .ok (.istore 4, 2) := by decide +kernel
theorem dX9_cover_120 : decode cX9_cover 120 = .ok (.iinc 5 1, 3) := by decide +kernel
theorem dX9_cover_123 : decode cX9_cover 123 = .ok (.goto (-74), 3) := by decide +kernel
theorem dX9_cover_126 : decode cX9_cover 126 = .ok (.aload_n 0, 1) := by decide +kernel
theorem dX9_cover_127 : decode cX9_cover 127 = .ok (.invokevirtual 101, 3) := by decide +kernel
theorem dX9_cover_130 : decode cX9_cover 130 = .ok (.aload_n 0, 1) := by decide +kernel
theorem dX9_cover_131 : decode cX9_cover 131 = .ok (.iload_n 3, 1) := by decide +kernel
theorem dX9_cover_132 : decode cX9_cover 132 = .ok (.iconst 1, 1) := by decide +kernel
theorem dX9_cover_133 : decode cX9_cover 133 = .ok (.isub, 1) := by decide +kernel
theorem dX9_cover_134 : decode cX9_cover 134 = .ok (.i2l, 1) := by decide +kernel
theorem dX9_cover_135 : decode cX9_cover 135 = .ok (.putfield 84, 3) := by decide +kernel
theorem dX9_cover_138 : decode cX9_cover 138 = .ok (.iconst 0, 1) := by decide +kernel
theorem dX9_cover_139 : decode cX9_cover 139 = .ok (.istore 5, 2) := by decide +kernel
theorem dX9_cover_141 : decode cX9_cover 141 = .ok (.iload 5, 2) := by decide +kernel
theorem dX9_cover_143 : decode cX9_cover 143 = .ok (.aload_n 0, 1) := by decide +kernel
theorem dX9_cover_144 : decode cX9_cover 144 = .ok (.getfield 124, 3) := by decide +kernel
theorem dX9_cover_147 : decode cX9_cover 147 = .ok (.if_icmp .ge 98, 3) := by decide +kernel
theorem dX9_cover_150 : decode cX9_cover 150 = .ok (.aload_n 0, 1) := by decide +kernel
theorem dX9_cover_151 : decode cX9_cover 151 = .ok (.getfield 51, 3) := by decide +kernel
theorem dX9_cover_154 : decode cX9_cover 154 = .ok (.iload 5, 2) := by decide +kernel
theorem dX9_cover_156 : decode cX9_cover 156 = .ok (.iaload, 1) := by decide +kernel
theorem dX9_cover_157 : decode cX9_cover 157 = .ok (.istore 6, 2) := by decide +kernel
theorem dX9_cover_159 : decode cX9_cover 159 = .ok (.aload_n 0, 1) := by decide +kernel
theorem dX9_cover_160 : decode cX9_cover 160 = .ok (.getfield 23, 3) := by decide +kernel
theorem dX9_cover_163 : decode cX9_cover 163 = .ok (.bipush 8, 2) := by decide +kernel
theorem dX9_cover_165 : decode cX9_cover 165 = .ok (.iload_n 1, 1) := by decide +kernel
theorem dX9_cover_166 : decode cX9_cover 166 = .ok (.imul, 1) := by decide +kernel
theorem dX9_cover_167 : decode cX9_cover 167 = .ok (.iload 6, 2) := by decide +kernel
theorem dX9_cover_169 : decode cX9_cover 169 = .ok (.iadd, 1) := by decide +kernel
theorem dX9_cover_170 : decode cX9_cover 170 = .ok (.iaload, 1) := by decide +kernel
theorem dX9_cover_171 : decode cX9_cover 171 = .ok (.ifCond .ge 7, 3) := by decide +kernel
theorem dX9_cover_174 : decode cX9_cover 174 = .ok (.iconst 1, 1) := by decide +kernel
theorem dX9_cover_175 : decode cX9_cover 175 = .ok (.goto 4, 3) := by decide +kernel
theorem dX9_cover_178 : decode cX9_cover 178 = .ok (.iconst 0, 1) := by decide +kernel
theorem dX9_cover_179 : decode cX9_cover 179 = .ok (.istore 7, 2) := by decide +kernel
theorem dX9_cover_181 : decode cX9_cover 181 = .ok (.aload_n 0, 1) := by decide +kernel
theorem dX9_cover_182 : decode cX9_cover 182 = .ok (.getfield 45, 3) := by decide +kernel
theorem dX9_cover_185 : decode cX9_cover 185 = .ok (.iload 6, 2) := by decide +kernel
theorem dX9_cover_187 : decode cX9_cover 187 = .ok (.iload 7, 2) := by decide +kernel
theorem dX9_cover_189 : decode cX9_cover 189 = .ok (.ifCond .eq 15, 3) := by decide +kernel
theorem dX9_cover_192 : decode cX9_cover 192 = .ok (.aload_n 0, 1) := by decide +kernel
theorem dX9_cover_193 : decode cX9_cover 193 = .ok (.getfield 57, 3) := by decide +kernel
theorem dX9_cover_196 : decode cX9_cover 196 = .ok (.iload 5, 2) := by decide +kernel
theorem dX9_cover_198 : decode cX9_cover 198 = .ok (.iaload, 1) := by decide +kernel
theorem dX9_cover_199 : decode cX9_cover 199 = .ok (.ineg, 1) := by decide +kernel
theorem dX9_cover_200 : decode cX9_cover 200 = .ok (.i2l, 1) := by decide +kernel
theorem dX9_cover_201 : decode cX9_cover 201 = .ok (.goto 11, 3) := by decide +kernel
theorem dX9_cover_204 : decode cX9_cover 204 = .ok (.aload_n 0, 1) := by decide +kernel
theorem dX9_cover_205 : decode cX9_cover 205 = .ok (.getfield 57, 3) := by decide +kernel
theorem dX9_cover_208 : decode cX9_cover 208 = .ok (.iload 5, 2) := by decide +kernel
theorem dX9_cover_210 : decode cX9_cover 210 = .ok (.iaload, 1) := by decide +kernel
theorem dX9_cover_211 : decode cX9_cover 211 = .ok (.i2l, 1) := by decide +kernel
theorem dX9_cover_212 : decode cX9_cover 212 = .ok (.lastore, 1) := by decide +kernel
theorem dX9_cover_213 : decode cX9_cover 213 = .ok (.aload_n 0, 1) := by decide +kernel
theorem dX9_cover_214 : decode cX9_cover 214 = .ok (.dup, 1) := by decide +kernel
theorem dX9_cover_215 : decode cX9_cover 215 = .ok (.getfield 84, 3) := by decide +kernel
theorem dX9_cover_218 : decode cX9_cover 218 = .ok (.iload 7, 2) := by decide +kernel
theorem dX9_cover_220 : decode cX9_cover 220 = .ok (.ifCond .eq 14, 3) := by decide +kernel
theorem dX9_cover_223 : decode cX9_cover 223 = .ok (.aload_n 0, 1) := by decide +kernel
theorem dX9_cover_224 : decode cX9_cover 224 = .ok (.getfield 57, 3) := by decide +kernel
theorem dX9_cover_227 : decode cX9_cover 227 = .ok (.iload 5, 2) := by decide +kernel
theorem dX9_cover_229 : decode cX9_cover 229 = .ok (.iaload, 1) := by decide +kernel
theorem dX9_cover_230 : decode cX9_cover 230 = .ok (.i2l, 1) := by decide +kernel
theorem dX9_cover_231 : decode cX9_cover 231 = .ok (.goto 4, 3) := by decide +kernel
theorem dX9_cover_234 : decode cX9_cover 234 = .ok (.lconst 0, 1) := by decide +kernel
theorem dX9_cover_235 : decode cX9_cover 235 = .ok (.lsub, 1) := by decide +kernel
theorem dX9_cover_236 : decode cX9_cover 236 = .ok (.putfield 84, 3) := by decide +kernel
theorem dX9_cover_239 : decode cX9_cover 239 = .ok (.iinc 5 1, 3) := by decide +kernel
theorem dX9_cover_242 : decode cX9_cover 242 = .ok (.goto (-101), 3) := by decide +kernel
theorem dX9_cover_245 : decode cX9_cover 245 = .ok (.aload_n 0, 1) := by decide +kernel
theorem dX9_cover_246 : decode cX9_cover 246 = .ok (.getfield 48, 3) := by decide +kernel
theorem dX9_cover_249 : decode cX9_cover 249 = .ok (.iconst 0, 1) := by decide +kernel
theorem dX9_cover_250 : decode cX9_cover 250 = .ok (.iload_n 1, 1) := by decide +kernel
theorem dX9_cover_251 : decode cX9_cover 251 = .ok (.iastore, 1) := by decide +kernel
theorem dX9_cover_252 : decode cX9_cover 252 = .ok (.aload_n 0, 1) := by decide +kernel
theorem dX9_cover_253 : decode cX9_cover 253 = .ok (.iconst 2, 1) := by decide +kernel
theorem dX9_cover_254 : decode cX9_cover 254 = .ok (.invokevirtual 118, 3) := by decide +kernel
theorem dX9_cover_257 : decode cX9_cover 257 = .ok (.return_, 1) := by decide +kernel
theorem dX9_covers_0 : decode cX9_covers 0 = .ok (.iconst 0, 1) := by decide +kernel
theorem dX9_covers_1 : decode cX9_covers 1 = .ok (.istore_n 1, 1) := by decide +kernel
theorem dX9_covers_2 : decode cX9_covers 2 = .ok (.iload_n 1, 1) := by decide +kernel
theorem dX9_covers_3 : decode cX9_covers 3 = .ok (.aload_n 0, 1) := by decide +kernel
theorem dX9_covers_4 : decode cX9_covers 4 = .ok (.getfield 72, 3) := by decide +kernel
theorem dX9_covers_7 : decode cX9_covers 7 = .ok (.if_icmp .ge 46, 3) := by decide +kernel
theorem dX9_covers_10 : decode cX9_covers 10 = .ok (.aload_n 0, 1) := by decide +kernel
theorem dX9_covers_11 : decode cX9_covers 11 = .ok (.iload_n 1, 1) := by decide +kernel
theorem dX9_covers_12 : decode cX9_covers 12 = .ok (.invokevirtual 147, 3) := by decide +kernel
theorem dX9_covers_15 : decode cX9_covers 15 = .ok (.iconst 1, 1) := by decide +kernel
theorem dX9_covers_16 : decode cX9_covers 16 = .ok (.istore_n 2, 1) := by decide +kernel
theorem dX9_covers_17 : decode cX9_covers 17 = .ok (.iload_n 2, 1) := by decide +kernel
theorem dX9_covers_18 : decode cX9_covers 18 = .ok (.iconst 1, 1) := by decide +kernel
theorem dX9_covers_19 : decode cX9_covers 19 = .ok (.aload_n 0, 1) := by decide +kernel
theorem dX9_covers_20 : decode cX9_covers 20 = .ok (.getfield 124, 3) := by decide +kernel
theorem dX9_covers_23 : decode cX9_covers 23 = .ok (.ishl, 1) := by decide +kernel
theorem dX9_covers_24 : decode cX9_covers 24 = .ok (.if_icmp .ge 23, 3) := by decide +kernel
theorem dX9_covers_27 : decode cX9_covers 27 = .ok (.aload_n 0, 1) := by decide +kernel
theorem dX9_covers_28 : decode cX9_covers 28 = .ok (.iload_n 2, 1) := by decide +kernel
theorem dX9_covers_29 : decode cX9_covers 29 = .ok (.invokevirtual 150, 3) := by decide +kernel
theorem dX9_covers_32 : decode cX9_covers 32 = .ok (.ifCond .eq 9, 3) := by decide +kernel
theorem dX9_covers_35 : decode cX9_covers 35 = .ok (.aload_n 0, 1) := by decide +kernel
theorem dX9_covers_36 : decode cX9_covers 36 = .ok (.iload_n 1, 1) := by decide +kernel
theorem dX9_covers_37 : decode cX9_covers 37 = .ok (.iload_n 2, 1) := by decide +kernel
theorem dX9_covers_38 : decode cX9_covers 38 = .ok (.invokevirtual 153, 3) := by decide +kernel
theorem dX9_covers_41 : decode cX9_covers 41 = .ok (.iinc 2 1, 3) := by decide +kernel
theorem dX9_covers_44 : decode cX9_covers 44 = .ok (.goto (-27), 3) := by decide +kernel
theorem dX9_covers_47 : decode cX9_covers 47 = .ok (.iinc 1 1, 3) := by decide +kernel
theorem dX9_covers_50 : decode cX9_covers 50 = .ok (.goto (-48), 3) := by decide +kernel
theorem dX9_covers_53 : decode cX9_covers 53 = .ok (.return_, 1) := by decide +kernel
theorem dX9_clash_0 : decode cX9_clash 0 = .ok (.iconst 0, 1) := by decide +kernel
theorem dX9_clash_1 : decode cX9_clash 1 = .ok (.istore_n 3, 1) := by decide +kernel
theorem dX9_clash_2 : decode cX9_clash 2 = .ok (.iload_n 3, 1) := by decide +kernel
theorem dX9_clash_3 : decode cX9_clash 3 = .ok (.aload_n 0, 1) := by decide +kernel
theorem dX9_clash_4 : decode cX9_clash 4 = .ok (.getfield 72, 3) := by decide +kernel
theorem dX9_clash_7 : decode cX9_clash 7 = .ok (.if_icmp .ge 93, 3) := by decide +kernel
theorem dX9_clash_10 : decode cX9_clash 10 = .ok (.aload_n 0, 1) := by decide +kernel
theorem dX9_clash_11 : decode cX9_clash 11 = .ok (.getfield 23, 3) := by decide +kernel
theorem dX9_clash_14 : decode cX9_clash 14 = .ok (.bipush 8, 2) := by decide +kernel
theorem dX9_clash_16 : decode cX9_clash 16 = .ok (.iload_n 3, 1) := by decide +kernel
theorem dX9_clash_17 : decode cX9_clash 17 = .ok (.imul, 1) := by decide +kernel
theorem dX9_clash_18 : decode cX9_clash 18 = .ok (.iload_n 1, 1) := by decide +kernel
theorem dX9_clash_19 : decode cX9_clash 19 = .ok (.iadd, 1) := by decide +kernel
theorem dX9_clash_20 : decode cX9_clash 20 = .ok (.iaload, 1) := by decide +kernel
theorem dX9_clash_21 : decode cX9_clash 21 = .ok (.aload_n 0, 1) := by decide +kernel
theorem dX9_clash_22 : decode cX9_clash 22 = .ok (.getfield 23, 3) := by decide +kernel
theorem dX9_clash_25 : decode cX9_clash 25 = .ok (.bipush 8, 2) := by decide +kernel
theorem dX9_clash_27 : decode cX9_clash 27 = .ok (.iload_n 3, 1) := by decide +kernel
theorem dX9_clash_28 : decode cX9_clash 28 = .ok (.imul, 1) := by decide +kernel
theorem dX9_clash_29 : decode cX9_clash 29 = .ok (.iload_n 2, 1) := by decide +kernel
theorem dX9_clash_30 : decode cX9_clash 30 = .ok (.iadd, 1) := by decide +kernel
theorem dX9_clash_31 : decode cX9_clash 31 = .ok (.iaload, 1) := by decide +kernel
theorem dX9_clash_32 : decode cX9_clash 32 = .ok (.iadd, 1) := by decide +kernel
theorem dX9_clash_33 : decode cX9_clash 33 = .ok (.istore 4, 2) := by decide +kernel
theorem dX9_clash_35 : decode cX9_clash 35 = .ok (.iconst 0, 1) := by decide +kernel
theorem dX9_clash_36 : decode cX9_clash 36 = .ok (.istore 5, 2) := by decide +kernel
theorem dX9_clash_38 : decode cX9_clash 38 = .ok (.iload 5, 2) := by decide +kernel
theorem dX9_clash_40 : decode cX9_clash 40 = .ok (.aload_n 0, 1) := by decide +kernel
theorem dX9_clash_41 : decode cX9_clash 41 = .ok (.getfield 66, 3) := by decide +kernel
theorem dX9_clash_44 : decode cX9_clash 44 = .ok (.if_icmp .ge 37, 3) := by decide +kernel
theorem dX9_clash_47 : decode cX9_clash 47 = .ok (.iload 4, 2) := by decide +kernel
theorem dX9_clash_49 : decode cX9_clash 49 = .ok (.iload 5, 2) := by decide +kernel
theorem dX9_clash_51 : decode cX9_clash 51 = .ok (.iload_n 1, 1) := by decide +kernel
theorem dX9_clash_52 : decode cX9_clash 52 = .ok (.if_icmp .eq 9, 3) := by decide +kernel
theorem dX9_clash_55 : decode cX9_clash 55 = .ok (.iload 5, 2) := by decide +kernel
theorem dX9_clash_57 : decode cX9_clash 57 = .ok (.iload_n 2, 1) := by decide +kernel
theorem dX9_clash_58 : decode cX9_clash 58 = .ok (.if_icmp .ne 7, 3) := by decide +kernel
theorem dX9_clash_61 : decode cX9_clash 61 = .ok (.iconst 0, 1) := by decide +kernel
theorem dX9_clash_62 : decode cX9_clash 62 = .ok (.goto 10, 3) := by decide +kernel
theorem dX9_clash_65 : decode cX9_clash 65 = .ok (.aload_n 0, 1) := by decide +kernel
theorem dX9_clash_66 : decode cX9_clash 66 = .ok (.iload_n 3, 1) := by decide +kernel
theorem dX9_clash_67 : decode cX9_clash 67 = .ok (.iload 5, 2) := by decide +kernel
theorem dX9_clash_69 : decode cX9_clash 69 = .ok (.invokevirtual 133, 3) := by decide +kernel
theorem dX9_clash_72 : decode cX9_clash 72 = .ok (.iadd, 1) := by decide +kernel
theorem dX9_clash_73 : decode cX9_clash 73 = .ok (.istore 4, 2) := by decide +kernel
theorem dX9_clash_75 : decode cX9_clash 75 = .ok (.iinc 5 1, 3) := by decide +kernel
theorem dX9_clash_78 : decode cX9_clash 78 = .ok (.goto (-40), 3) := by decide +kernel
theorem dX9_clash_81 : decode cX9_clash 81 = .ok (.iload 4, 2) := by decide +kernel
theorem dX9_clash_83 : decode cX9_clash 83 = .ok (.aload_n 0, 1) := by decide +kernel
theorem dX9_clash_84 : decode cX9_clash 84 = .ok (.getfield 20, 3) := by decide +kernel
theorem dX9_clash_87 : decode cX9_clash 87 = .ok (.iload_n 3, 1) := by decide +kernel
theorem dX9_clash_88 : decode cX9_clash 88 = .ok (.iaload, 1) := by decide +kernel
theorem dX9_clash_89 : decode cX9_clash 89 = .ok (.if_icmp .le 5, 3) := by decide +kernel
theorem dX9_clash_92 : decode cX9_clash 92 = .ok (.iconst 1, 1) := by decide +kernel
theorem dX9_clash_93 : decode cX9_clash 93 = .ok (.ireturn, 1) := by decide +kernel
theorem dX9_clash_94 : decode cX9_clash 94 = .ok (.iinc 3 1, 3) := by decide +kernel
theorem dX9_clash_97 : decode cX9_clash 97 = .ok (.goto (-95), 3) := by decide +kernel
theorem dX9_clash_100 : decode cX9_clash 100 = .ok (.iconst 0, 1) := by decide +kernel
theorem dX9_clash_101 : decode cX9_clash 101 = .ok (.ireturn, 1) := by decide +kernel
theorem dX9_isClique_0 : decode cX9_isClique 0 = .ok (.iconst 0, 1) := by decide +kernel
theorem dX9_isClique_1 : decode cX9_isClique 1 = .ok (.istore_n 2, 1) := by decide +kernel
theorem dX9_isClique_2 : decode cX9_isClique 2 = .ok (.iload_n 2, 1) := by decide +kernel
theorem dX9_isClique_3 : decode cX9_isClique 3 = .ok (.aload_n 0, 1) := by decide +kernel
theorem dX9_isClique_4 : decode cX9_isClique 4 = .ok (.getfield 66, 3) := by decide +kernel
theorem dX9_isClique_7 : decode cX9_isClique 7 = .ok (.if_icmp .ge 124, 3) := by decide +kernel
theorem dX9_isClique_10 : decode cX9_isClique 10 = .ok (.iload_n 1, 1) := by decide +kernel
theorem dX9_isClique_11 : decode cX9_isClique 11 = .ok (.iload_n 2, 1) := by decide +kernel
theorem dX9_isClique_12 : decode cX9_isClique 12 = .ok (.ishr, 1) := by decide +kernel
theorem dX9_isClique_13 : decode cX9_isClique 13 = .ok (.iconst 1, 1) := by decide +kernel
theorem dX9_isClique_14 : decode cX9_isClique 14 = .ok (.iand, 1) := by decide +kernel
theorem dX9_isClique_15 : decode cX9_isClique 15 = .ok (.iconst 1, 1) := by decide +kernel
theorem dX9_isClique_16 : decode cX9_isClique 16 = .ok (.if_icmp .ne 7, 3) := by decide +kernel
theorem dX9_isClique_19 : decode cX9_isClique 19 = .ok (.iconst 1, 1) := by decide +kernel
theorem dX9_isClique_20 : decode cX9_isClique 20 = .ok (.goto 4, 3) := by decide +kernel
theorem dX9_isClique_23 : decode cX9_isClique 23 = .ok (.iconst 0, 1) := by decide +kernel
theorem dX9_isClique_24 : decode cX9_isClique 24 = .ok (.istore_n 3, 1) := by decide +kernel
theorem dX9_isClique_25 : decode cX9_isClique 25 = .ok (.iload_n 3, 1) := by decide +kernel
theorem dX9_isClique_26 : decode cX9_isClique 26 = .ok (.ifCond .eq 13, 3) := by decide +kernel
theorem dX9_isClique_29 : decode cX9_isClique 29 = .ok (.aload_n 0, 1) := by decide +kernel
theorem dX9_isClique_30 : decode cX9_isClique 30 = .ok (.iload_n 2, 1) := by decide +kernel
theorem dX9_isClique_31 : decode cX9_isClique 31 = .ok (.invokevirtual 130, 3) := by decide +kernel
theorem dX9_isClique_34 : decode cX9_isClique 34 = .ok (.ifCond .ne 5, 3) := by decide +kernel
theorem dX9_isClique_37 : decode cX9_isClique 37 = .ok (.iconst 0, 1) := by decide +kernel
theorem dX9_isClique_38 : decode cX9_isClique 38 = .ok (.ireturn, 1) := by decide +kernel
theorem dX9_isClique_39 : decode cX9_isClique 39 = .ok (.iconst 1, 1) := by decide +kernel
theorem dX9_isClique_40 : decode cX9_isClique 40 = .ok (.istore 4, 2) := by decide +kernel
theorem dX9_isClique_42 : decode cX9_isClique 42 = .ok (.iconst 0, 1) := by decide +kernel
theorem dX9_isClique_43 : decode cX9_isClique 43 = .ok (.istore 5, 2) := by decide +kernel
theorem dX9_isClique_45 : decode cX9_isClique 45 = .ok (.iload 5, 2) := by decide +kernel
theorem dX9_isClique_47 : decode cX9_isClique 47 = .ok (.aload_n 0, 1) := by decide +kernel
theorem dX9_isClique_48 : decode cX9_isClique 48 = .ok (.getfield 66, 3) := by decide +kernel
theorem dX9_isClique_51 : decode cX9_isClique 51 = .ok (.if_icmp .ge 46, 3) := by decide +kernel
theorem dX9_isClique_54 : decode cX9_isClique 54 = .ok (.iload 4, 2) := by decide +kernel
theorem dX9_isClique_56 : decode cX9_isClique 56 = .ok (.ifCond .eq 32, 3) := by decide +kernel
theorem dX9_isClique_59 : decode cX9_isClique 59 = .ok (.iload 5, 2) := by decide +kernel
theorem dX9_isClique_61 : decode cX9_isClique 61 = .ok (.iload_n 2, 1) := by decide +kernel
theorem dX9_isClique_62 : decode cX9_isClique 62 = .ok (.if_icmp .eq 22, 3) := by decide +kernel
theorem dX9_isClique_65 : decode cX9_isClique 65 = .ok (.iload_n 1, 1) := by decide +kernel
theorem dX9_isClique_66 : decode cX9_isClique 66 = .ok (.iload 5, 2) := by decide +kernel
theorem dX9_isClique_68 : decode cX9_isClique 68 = .ok (.ishr, 1) := by decide +kernel
theorem dX9_isClique_69 : decode cX9_isClique 69 = .ok (.iconst 1, 1) := by decide +kernel
theorem dX9_isClique_70 : decode cX9_isClique 70 = .ok (.iand, 1) := by decide +kernel
theorem dX9_isClique_71 : decode cX9_isClique 71 = .ok (.ifCond .eq 13, 3) := by decide +kernel
theorem dX9_isClique_74 : decode cX9_isClique 74 = .ok (.aload_n 0, 1) := by decide +kernel
theorem dX9_isClique_75 : decode cX9_isClique 75 = .ok (.iload_n 2, 1) := by decide +kernel
theorem dX9_isClique_76 : decode cX9_isClique 76 = .ok (.iload 5, 2) := by decide +kernel
theorem dX9_isClique_78 : decode cX9_isClique 78 = .ok (.invokevirtual 156, 3) := by decide +kernel
theorem dX9_isClique_81 : decode cX9_isClique 81 = .ok (.ifCond .eq 7, 3) := by decide +kernel
theorem dX9_isClique_84 : decode cX9_isClique 84 = .ok (.iconst 1, 1) := by decide +kernel
theorem dX9_isClique_85 : decode cX9_isClique 85 = .ok (.goto 4, 3) := by decide +kernel
theorem dX9_isClique_88 : decode cX9_isClique 88 = .ok (.iconst 0, 1) := by decide +kernel
theorem dX9_isClique_89 : decode cX9_isClique 89 = .ok (.istore 4, 2) := by decide +kernel
theorem dX9_isClique_91 : decode cX9_isClique 91 = .ok (.iinc 5 1, 3) := by decide +kernel
theorem dX9_isClique_94 : decode cX9_isClique 94 = .ok (.goto (-49), 3) := by decide +kernel
theorem dX9_isClique_97 : decode cX9_isClique 97 = .ok (.iload_n 3, 1) := by decide +kernel
theorem dX9_isClique_98 : decode cX9_isClique 98 = .ok (.ifCond .eq 8, 3) := by decide +kernel
theorem dX9_isClique_101 : decode cX9_isClique 101 = .ok (.iload 4, 2) := by decide +kernel
theorem dX9_isClique_103 : decode cX9_isClique 103 = .ok (.ifCond .eq 20, 3) := by decide +kernel
theorem dX9_isClique_106 : decode cX9_isClique 106 = .ok (.iload_n 3, 1) := by decide +kernel
theorem dX9_isClique_107 : decode cX9_isClique 107 = .ok (.ifCond .ne 18, 3) := by decide +kernel
theorem dX9_isClique_110 : decode cX9_isClique 110 = .ok (.aload_n 0, 1) := by decide +kernel
theorem dX9_isClique_111 : decode cX9_isClique 111 = .ok (.iload_n 2, 1) := by decide +kernel
theorem dX9_isClique_112 : decode cX9_isClique 112 = .ok (.invokevirtual 130, 3) := by decide +kernel
theorem dX9_isClique_115 : decode cX9_isClique 115 = .ok (.ifCond .eq 10, 3) := by decide +kernel
theorem dX9_isClique_118 : decode cX9_isClique 118 = .ok (.iload 4, 2) := by decide +kernel
theorem dX9_isClique_120 : decode cX9_isClique 120 = .ok (.ifCond .eq 5, 3) := by decide +kernel
theorem dX9_isClique_123 : decode cX9_isClique 123 = .ok (.iconst 0, 1) := by decide +kernel
theorem dX9_isClique_124 : decode cX9_isClique 124 = .ok (.ireturn, 1) := by decide +kernel
theorem dX9_isClique_125 : decode cX9_isClique 125 = .ok (.iinc 2 1, 3) := by decide +kernel
theorem dX9_isClique_128 : decode cX9_isClique 128 = .ok (.goto (-126), 3) := by decide +kernel
theorem dX9_isClique_131 : decode cX9_isClique 131 = .ok (.iconst 1, 1) := by decide +kernel
theorem dX9_isClique_132 : decode cX9_isClique 132 = .ok (.ireturn, 1) := by decide +kernel
theorem dX9_cliques_0 : decode cX9_cliques 0 = .ok (.iconst 3, 1) := by decide +kernel
theorem dX9_cliques_1 : decode cX9_cliques 1 = .ok (.istore_n 1, 1) := by decide +kernel
theorem dX9_cliques_2 : decode cX9_cliques 2 = .ok (.iload_n 1, 1) := by decide +kernel
theorem dX9_cliques_3 : decode cX9_cliques 3 = .ok (.iconst 1, 1) := by decide +kernel
theorem dX9_cliques_4 : decode cX9_cliques 4 = .ok (.aload_n 0, 1) := by decide +kernel
theorem dX9_cliques_5 : decode cX9_cliques 5 = .ok (.getfield 66, 3) := by decide +kernel
theorem dX9_cliques_8 : decode cX9_cliques 8 = .ok (.ishl, 1) := by decide +kernel
theorem dX9_cliques_9 : decode cX9_cliques 9 = .ok (.if_icmp .ge 67, 3) := by decide +kernel
theorem dX9_cliques_12 : decode cX9_cliques 12 = .ok (.iload_n 1, 1) := by decide +kernel
theorem dX9_cliques_13 : decode cX9_cliques 13 = .ok (.iload_n 1, 1) := by decide +kernel
theorem dX9_cliques_14 : decode cX9_cliques 14 = .ok (.iconst 1, 1) := by decide +kernel
theorem dX9_cliques_15 : decode cX9_cliques 15 = .ok (.isub, 1) := by decide +kernel
theorem dX9_cliques_16 : decode cX9_cliques 16 = .ok (.iand, 1) := by decide +kernel
theorem dX9_cliques_17 : decode cX9_cliques 17 = .ok (.ifCond .eq 53, 3) := by decide +kernel
theorem dX9_cliques_20 : decode cX9_cliques 20 = .ok (.aload_n 0, 1) := by decide +kernel
theorem dX9_cliques_21 : decode cX9_cliques 21 = .ok (.iload_n 1, 1) := by decide +kernel
theorem dX9_cliques_22 : decode cX9_cliques 22 = .ok (.invokevirtual 160, 3) := by decide +kernel
theorem dX9_cliques_25 : decode cX9_cliques 25 = .ok (.ifCond .eq 45, 3) := by decide +kernel
theorem dX9_cliques_28 : decode cX9_cliques 28 = .ok (.aload_n 0, 1) := by decide +kernel
theorem dX9_cliques_29 : decode cX9_cliques 29 = .ok (.invokevirtual 101, 3) := by decide +kernel
theorem dX9_cliques_32 : decode cX9_cliques 32 = .ok (.iconst 0, 1) := by decide +kernel
theorem dX9_cliques_33 : decode cX9_cliques 33 = .ok (.istore_n 2, 1) := by decide +kernel
theorem dX9_cliques_34 : decode cX9_cliques 34 = .ok (.iload_n 2, 1) := by decide +kernel
theorem dX9_cliques_35 : decode cX9_cliques 35 = .ok (.aload_n 0, 1) := by decide +kernel
theorem dX9_cliques_36 : decode cX9_cliques 36 = .ok (.getfield 66, 3) := by decide +kernel
theorem dX9_cliques_39 : decode cX9_cliques 39 = .ok (.if_icmp .ge 21, 3) := by decide +kernel
theorem dX9_cliques_42 : decode cX9_cliques 42 = .ok (.aload_n 0, 1) := by decide +kernel
theorem dX9_cliques_43 : decode cX9_cliques 43 = .ok (.getfield 45, 3) := by decide +kernel
theorem dX9_cliques_46 : decode cX9_cliques 46 = .ok (.iload_n 2, 1) := by decide +kernel
theorem dX9_cliques_47 : decode cX9_cliques 47 = .ok (.iload_n 1, 1) := by decide +kernel
theorem dX9_cliques_48 : decode cX9_cliques 48 = .ok (.iload_n 2, 1) := by decide +kernel
theorem dX9_cliques_49 : decode cX9_cliques 49 = .ok (.ishr, 1) := by decide +kernel
theorem dX9_cliques_50 : decode cX9_cliques 50 = .ok (.iconst 1, 1) := by decide +kernel
theorem dX9_cliques_51 : decode cX9_cliques 51 = .ok (.iand, 1) := by decide +kernel
theorem dX9_cliques_52 : decode cX9_cliques 52 = .ok (.i2l, 1) := by decide +kernel
theorem dX9_cliques_53 : decode cX9_cliques 53 = .ok (.lastore, 1) := by decide +kernel
theorem dX9_cliques_54 : decode cX9_cliques 54 = .ok (.iinc 2 1, 3) := by decide +kernel
theorem dX9_cliques_57 : decode cX9_cliques 57 = .ok (.goto (-23), 3) := by decide +kernel
theorem dX9_cliques_60 : decode cX9_cliques 60 = .ok (.aload_n 0, 1) := by decide +kernel
theorem dX9_cliques_61 : decode cX9_cliques 61 = .ok (.lconst 1, 1) := by decide +kernel
theorem dX9_cliques_62 : decode cX9_cliques 62 = .ok (.putfield 84, 3) := by decide +kernel
theorem dX9_cliques_65 : decode cX9_cliques 65 = .ok (.aload_n 0, 1) := by decide +kernel
theorem dX9_cliques_66 : decode cX9_cliques 66 = .ok (.iconst 3, 1) := by decide +kernel
theorem dX9_cliques_67 : decode cX9_cliques 67 = .ok (.invokevirtual 118, 3) := by decide +kernel
theorem dX9_cliques_70 : decode cX9_cliques 70 = .ok (.iinc 1 1, 3) := by decide +kernel
theorem dX9_cliques_73 : decode cX9_cliques 73 = .ok (.goto (-71), 3) := by decide +kernel
theorem dX9_cliques_76 : decode cX9_cliques 76 = .ok (.return_, 1) := by decide +kernel
theorem dX9_find_0 : decode cX9_find 0 = .ok (.aload_n 0, 1) := by decide +kernel
theorem dX9_find_1 : decode cX9_find 1 = .ok (.iconst 0, 1) := by decide +kernel
theorem dX9_find_2 : decode cX9_find 2 = .ok (.putfield 63, 3) := by decide +kernel
theorem dX9_find_5 : decode cX9_find 5 = .ok (.iload_n 1, 1) := by decide +kernel
theorem dX9_find_6 : decode cX9_find 6 = .ok (.ifCond .lt 8, 3) := by decide +kernel
theorem dX9_find_9 : decode cX9_find 9 = .ok (.iload_n 1, 1) := by decide +kernel
theorem dX9_find_10 : decode cX9_find 10 = .ok (.iconst 3, 1) := by decide +kernel
theorem dX9_find_11 : decode cX9_find 11 = .ok (.if_icmp .le 6, 3) := by decide +kernel
theorem dX9_find_14 : decode cX9_find 14 = .ok (.bipush (-2), 2) := by decide +kernel
theorem dX9_find_16 : decode cX9_find 16 = .ok (.ireturn, 1) := by decide +kernel
theorem dX9_find_17 : decode cX9_find 17 = .ok (.aload_n 0, 1) := by decide +kernel
theorem dX9_find_18 : decode cX9_find 18 = .ok (.iconst 1, 1) := by decide +kernel
theorem dX9_find_19 : decode cX9_find 19 = .ok (.putfield 41, 3) := by decide +kernel
theorem dX9_find_22 : decode cX9_find 22 = .ok (.aload_n 0, 1) := by decide +kernel
theorem dX9_find_23 : decode cX9_find 23 = .ok (.iconst 0, 1) := by decide +kernel
theorem dX9_find_24 : decode cX9_find 24 = .ok (.putfield 92, 3) := by decide +kernel
theorem dX9_find_27 : decode cX9_find 27 = .ok (.iload_n 1, 1) := by decide +kernel
theorem dX9_find_28 : decode cX9_find 28 = .ok (.tableswitch 49 0 2 #[28, 35, 42], 28) := by decide +kernel
theorem dX9_find_56 : decode cX9_find 56 = .ok (.aload_n 0, 1) := by decide +kernel
theorem dX9_find_57 : decode cX9_find 57 = .ok (.invokevirtual 163, 3) := by decide +kernel
theorem dX9_find_60 : decode cX9_find 60 = .ok (.goto 21, 3) := by decide +kernel
theorem dX9_find_63 : decode cX9_find 63 = .ok (.aload_n 0, 1) := by decide +kernel
theorem dX9_find_64 : decode cX9_find 64 = .ok (.invokevirtual 166, 3) := by decide +kernel
theorem dX9_find_67 : decode cX9_find 67 = .ok (.goto 14, 3) := by decide +kernel
theorem dX9_find_70 : decode cX9_find 70 = .ok (.aload_n 0, 1) := by decide +kernel
theorem dX9_find_71 : decode cX9_find 71 = .ok (.invokevirtual 169, 3) := by decide +kernel
theorem dX9_find_74 : decode cX9_find 74 = .ok (.goto 7, 3) := by decide +kernel
theorem dX9_find_77 : decode cX9_find 77 = .ok (.aload_n 0, 1) := by decide +kernel
theorem dX9_find_78 : decode cX9_find 78 = .ok (.invokevirtual 172, 3) := by decide +kernel
theorem dX9_find_81 : decode cX9_find 81 = .ok (.aload_n 0, 1) := by decide +kernel
theorem dX9_find_82 : decode cX9_find 82 = .ok (.getfield 92, 3) := by decide +kernel
theorem dX9_find_85 : decode cX9_find 85 = .ok (.ireturn, 1) := by decide +kernel
theorem dX9_closed_0 : decode cX9_closed 0 = .ok (.aload_n 0, 1) := by decide +kernel
theorem dX9_closed_1 : decode cX9_closed 1 = .ok (.iconst 0, 1) := by decide +kernel
theorem dX9_closed_2 : decode cX9_closed 2 = .ok (.putfield 63, 3) := by decide +kernel
theorem dX9_closed_5 : decode cX9_closed 5 = .ok (.aload_n 0, 1) := by decide +kernel
theorem dX9_closed_6 : decode cX9_closed 6 = .ok (.getfield 41, 3) := by decide +kernel
theorem dX9_closed_9 : decode cX9_closed 9 = .ok (.ireturn, 1) := by decide +kernel
theorem dX9_cut_0 : decode cX9_cut 0 = .ok (.aload_n 0, 1) := by decide +kernel
theorem dX9_cut_1 : decode cX9_cut 1 = .ok (.iconst 0, 1) := by decide +kernel
theorem dX9_cut_2 : decode cX9_cut 2 = .ok (.putfield 63, 3) := by decide +kernel
theorem dX9_cut_5 : decode cX9_cut 5 = .ok (.aload_n 0, 1) := by decide +kernel
theorem dX9_cut_6 : decode cX9_cut 6 = .ok (.iload_n 1, 1) := by decide +kernel
theorem dX9_cut_7 : decode cX9_cut 7 = .ok (.invokevirtual 175, 3) := by decide +kernel
theorem dX9_cut_10 : decode cX9_cut 10 = .ok (.ifCond .eq 15, 3) := by decide +kernel
theorem dX9_cut_13 : decode cX9_cut 13 = .ok (.iload_n 2, 1) := by decide +kernel
theorem dX9_cut_14 : decode cX9_cut 14 = .ok (.ifCond .ne 18, 3) := by decide +kernel
theorem dX9_cut_17 : decode cX9_cut 17 = .ok (.aload_n 0, 1) := by decide +kernel
theorem dX9_cut_18 : decode cX9_cut 18 = .ok (.iload_n 3, 1) := by decide +kernel
theorem dX9_cut_19 : decode cX9_cut 19 = .ok (.invokevirtual 79, 3) := by decide +kernel
theorem dX9_cut_22 : decode cX9_cut 22 = .ok (.ifCond .ne 10, 3) := by decide +kernel
theorem dX9_cut_25 : decode cX9_cut 25 = .ok (.aload_n 0, 1) := by decide +kernel
theorem dX9_cut_26 : decode cX9_cut 26 = .ok (.iconst 1, 1) := by decide +kernel
theorem dX9_cut_27 : decode cX9_cut 27 = .ok (.putfield 63, 3) := by decide +kernel
theorem dX9_cut_30 : decode cX9_cut 30 = .ok (.iconst 0, 1) := by decide +kernel
theorem dX9_cut_31 : decode cX9_cut 31 = .ok (.ireturn, 1) := by decide +kernel
theorem dX9_cut_32 : decode cX9_cut 32 = .ok (.iload_n 2, 1) := by decide +kernel
theorem dX9_cut_33 : decode cX9_cut 33 = .ok (.tableswitch 66 0 3 #[31, 44, 52, 59], 31) := by decide +kernel
theorem dX9_cut_64 : decode cX9_cut 64 = .ok (.aload_n 0, 1) := by decide +kernel
theorem dX9_cut_65 : decode cX9_cut 65 = .ok (.getfield 26, 3) := by decide +kernel
theorem dX9_cut_68 : decode cX9_cut 68 = .ok (.bipush 8, 2) := by decide +kernel
theorem dX9_cut_70 : decode cX9_cut 70 = .ok (.iload_n 1, 1) := by decide +kernel
theorem dX9_cut_71 : decode cX9_cut 71 = .ok (.imul, 1) := by decide +kernel
theorem dX9_cut_72 : decode cX9_cut 72 = .ok (.iload_n 3, 1) := by decide +kernel
theorem dX9_cut_73 : decode cX9_cut 73 = .ok (.iadd, 1) := by decide +kernel
theorem dX9_cut_74 : decode cX9_cut 74 = .ok (.laload, 1) := by decide +kernel
theorem dX9_cut_75 : decode cX9_cut 75 = .ok (.l2i, 1) := by decide +kernel
theorem dX9_cut_76 : decode cX9_cut 76 = .ok (.ireturn, 1) := by decide +kernel
theorem dX9_cut_77 : decode cX9_cut 77 = .ok (.aload_n 0, 1) := by decide +kernel
theorem dX9_cut_78 : decode cX9_cut 78 = .ok (.getfield 29, 3) := by decide +kernel
theorem dX9_cut_81 : decode cX9_cut 81 = .ok (.iload_n 1, 1) := by decide +kernel
theorem dX9_cut_82 : decode cX9_cut 82 = .ok (.laload, 1) := by decide +kernel
theorem dX9_cut_83 : decode cX9_cut 83 = .ok (.l2i, 1) := by decide +kernel
theorem dX9_cut_84 : decode cX9_cut 84 = .ok (.ireturn, 1) := by decide +kernel
theorem dX9_cut_85 : decode cX9_cut 85 = .ok (.aload_n 0, 1) := by decide +kernel
theorem dX9_cut_86 : decode cX9_cut 86 = .ok (.getfield 32, 3) := by decide +kernel
theorem dX9_cut_89 : decode cX9_cut 89 = .ok (.iload_n 1, 1) := by decide +kernel
theorem dX9_cut_90 : decode cX9_cut 90 = .ok (.iaload, 1) := by decide +kernel
theorem dX9_cut_91 : decode cX9_cut 91 = .ok (.ireturn, 1) := by decide +kernel
theorem dX9_cut_92 : decode cX9_cut 92 = .ok (.aload_n 0, 1) := by decide +kernel
theorem dX9_cut_93 : decode cX9_cut 93 = .ok (.getfield 35, 3) := by decide +kernel
theorem dX9_cut_96 : decode cX9_cut 96 = .ok (.iload_n 1, 1) := by decide +kernel
theorem dX9_cut_97 : decode cX9_cut 97 = .ok (.iaload, 1) := by decide +kernel
theorem dX9_cut_98 : decode cX9_cut 98 = .ok (.ireturn, 1) := by decide +kernel
theorem dX9_cut_99 : decode cX9_cut 99 = .ok (.aload_n 0, 1) := by decide +kernel
theorem dX9_cut_100 : decode cX9_cut 100 = .ok (.iconst 2, 1) := by decide +kernel
theorem dX9_cut_101 : decode cX9_cut 101 = .ok (.putfield 63, 3) := by decide +kernel
theorem dX9_cut_104 : decode cX9_cut 104 = .ok (.iconst 0, 1) := by decide +kernel
theorem dX9_cut_105 : decode cX9_cut 105 = .ok (.ireturn, 1) := by decide +kernel
theorem dX9_placeOf_0 : decode cX9_placeOf 0 = .ok (.aload_n 0, 1) := by decide +kernel
theorem dX9_placeOf_1 : decode cX9_placeOf 1 = .ok (.iload_n 1, 1) := by decide +kernel
theorem dX9_placeOf_2 : decode cX9_placeOf 2 = .ok (.invokevirtual 175, 3) := by decide +kernel
theorem dX9_placeOf_5 : decode cX9_placeOf 5 = .ok (.ifCond .ne 5, 3) := by decide +kernel
theorem dX9_placeOf_8 : decode cX9_placeOf 8 = .ok (.iconst (-1), 1) := by decide +kernel
theorem dX9_placeOf_9 : decode cX9_placeOf 9 = .ok (.ireturn, 1) := by decide +kernel
theorem dX9_placeOf_10 : decode cX9_placeOf 10 = .ok (.iload_n 2, 1) := by decide +kernel
theorem dX9_placeOf_11 : decode cX9_placeOf 11 = .ok (.ifCond .lt 8, 3) := by decide +kernel
theorem dX9_placeOf_14 : decode cX9_placeOf 14 = .ok (.iload_n 2, 1) := by decide +kernel
theorem dX9_placeOf_15 : decode cX9_placeOf 15 = .ok (.iconst 3, 1) := by decide +kernel
theorem dX9_placeOf_16 : decode cX9_placeOf 16 = .ok (.if_icmp .le 6, 3) := by decide +kernel
theorem dX9_placeOf_19 : decode cX9_placeOf 19 = .ok (.bipush (-2), 2) := by decide +kernel
theorem dX9_placeOf_21 : decode cX9_placeOf 21 = .ok (.ireturn, 1) := by decide +kernel
theorem dX9_placeOf_22 : decode cX9_placeOf 22 = .ok (.aload_n 0, 1) := by decide +kernel
theorem dX9_placeOf_23 : decode cX9_placeOf 23 = .ok (.getfield 32, 3) := by decide +kernel
theorem dX9_placeOf_26 : decode cX9_placeOf 26 = .ok (.iload_n 1, 1) := by decide +kernel
theorem dX9_placeOf_27 : decode cX9_placeOf 27 = .ok (.iaload, 1) := by decide +kernel
theorem dX9_placeOf_28 : decode cX9_placeOf 28 = .ok (.istore 4, 2) := by decide +kernel
theorem dX9_placeOf_30 : decode cX9_placeOf 30 = .ok (.iload 4, 2) := by decide +kernel
theorem dX9_placeOf_32 : decode cX9_placeOf 32 = .ok (.iconst 3, 1) := by decide +kernel
theorem dX9_placeOf_33 : decode cX9_placeOf 33 = .ok (.if_icmp .eq 13, 3) := by decide +kernel
theorem dX9_placeOf_36 : decode cX9_placeOf 36 = .ok (.iload 4, 2) := by decide +kernel
theorem dX9_placeOf_38 : decode cX9_placeOf 38 = .ok (.iconst 2, 1) := by decide +kernel
theorem dX9_placeOf_39 : decode cX9_placeOf 39 = .ok (.if_icmp .ne 9, 3) := by decide +kernel
theorem dX9_placeOf_42 : decode cX9_placeOf 42 = .ok (.iload_n 2, 1) := by decide +kernel
theorem dX9_placeOf_43 : decode cX9_placeOf 43 = .ok (.ifCond .eq 5, 3) := by decide +kernel
theorem dX9_placeOf_46 : decode cX9_placeOf 46 = .ok (.iconst (-1), 1) := by decide +kernel
theorem dX9_placeOf_47 : decode cX9_placeOf 47 = .ok (.ireturn, 1) := by decide +kernel
theorem dX9_placeOf_48 : decode cX9_placeOf 48 = .ok (.iload 4, 2) := by decide +kernel
theorem dX9_placeOf_50 : decode cX9_placeOf 50 = .ok (.iconst 2, 1) := by decide +kernel
theorem dX9_placeOf_51 : decode cX9_placeOf 51 = .ok (.if_icmp .eq 8, 3) := by decide +kernel
theorem dX9_placeOf_54 : decode cX9_placeOf 54 = .ok (.iload_n 2, 1) := by decide +kernel
theorem dX9_placeOf_55 : decode cX9_placeOf 55 = .ok (.iconst 3, 1) := by decide +kernel
theorem dX9_placeOf_56 : decode cX9_placeOf 56 = .ok (.if_icmp .ne 24, 3) := by decide +kernel
theorem dX9_placeOf_59 : decode cX9_placeOf 59 = .ok (.iload_n 3, 1) := by decide +kernel
theorem dX9_placeOf_60 : decode cX9_placeOf 60 = .ok (.ifCond .eq 8, 3) := by decide +kernel
theorem dX9_placeOf_63 : decode cX9_placeOf 63 = .ok (.bipush (-2), 2) := by decide +kernel
theorem dX9_placeOf_65 : decode cX9_placeOf 65 = .ok (.goto 14, 3) := by decide +kernel
theorem dX9_placeOf_68 : decode cX9_placeOf 68 = .ok (.iload_n 2, 1) := by decide +kernel
theorem dX9_placeOf_69 : decode cX9_placeOf 69 = .ok (.iconst 3, 1) := by decide +kernel
theorem dX9_placeOf_70 : decode cX9_placeOf 70 = .ok (.if_icmp .ne 8, 3) := by decide +kernel
theorem dX9_placeOf_73 : decode cX9_placeOf 73 = .ok (.bipush 26, 2) := by decide +kernel
theorem dX9_placeOf_75 : decode cX9_placeOf 75 = .ok (.goto 4, 3) := by decide +kernel
theorem dX9_placeOf_78 : decode cX9_placeOf 78 = .ok (.iconst 0, 1) := by decide +kernel
theorem dX9_placeOf_79 : decode cX9_placeOf 79 = .ok (.ireturn, 1) := by decide +kernel
theorem dX9_placeOf_80 : decode cX9_placeOf 80 = .ok (.iload_n 2, 1) := by decide +kernel
theorem dX9_placeOf_81 : decode cX9_placeOf 81 = .ok (.ifCond .ne 17, 3) := by decide +kernel
theorem dX9_placeOf_84 : decode cX9_placeOf 84 = .ok (.aload_n 0, 1) := by decide +kernel
theorem dX9_placeOf_85 : decode cX9_placeOf 85 = .ok (.iload_n 3, 1) := by decide +kernel
theorem dX9_placeOf_86 : decode cX9_placeOf 86 = .ok (.invokevirtual 75, 3) := by decide +kernel
theorem dX9_placeOf_89 : decode cX9_placeOf 89 = .ok (.ifCond .eq 7, 3) := by decide +kernel
theorem dX9_placeOf_92 : decode cX9_placeOf 92 = .ok (.iload_n 3, 1) := by decide +kernel
theorem dX9_placeOf_93 : decode cX9_placeOf 93 = .ok (.goto 4, 3) := by decide +kernel
theorem dX9_placeOf_96 : decode cX9_placeOf 96 = .ok (.iconst (-1), 1) := by decide +kernel
theorem dX9_placeOf_97 : decode cX9_placeOf 97 = .ok (.ireturn, 1) := by decide +kernel
theorem dX9_placeOf_98 : decode cX9_placeOf 98 = .ok (.aload_n 0, 1) := by decide +kernel
theorem dX9_placeOf_99 : decode cX9_placeOf 99 = .ok (.iload_n 3, 1) := by decide +kernel
theorem dX9_placeOf_100 : decode cX9_placeOf 100 = .ok (.invokevirtual 79, 3) := by decide +kernel
theorem dX9_placeOf_103 : decode cX9_placeOf 103 = .ok (.ifCond .ne 7, 3) := by decide +kernel
theorem dX9_placeOf_106 : decode cX9_placeOf 106 = .ok (.iconst (-1), 1) := by decide +kernel
theorem dX9_placeOf_107 : decode cX9_placeOf 107 = .ok (.goto 19, 3) := by decide +kernel
theorem dX9_placeOf_110 : decode cX9_placeOf 110 = .ok (.iload_n 2, 1) := by decide +kernel
theorem dX9_placeOf_111 : decode cX9_placeOf 111 = .ok (.iconst 1, 1) := by decide +kernel
theorem dX9_placeOf_112 : decode cX9_placeOf 112 = .ok (.if_icmp .ne 10, 3) := by decide +kernel
theorem dX9_placeOf_115 : decode cX9_placeOf 115 = .ok (.bipush 10, 2) := by decide +kernel
theorem dX9_placeOf_117 : decode cX9_placeOf 117 = .ok (.iload_n 3, 1) := by decide +kernel
theorem dX9_placeOf_118 : decode cX9_placeOf 118 = .ok (.iadd, 1) := by decide +kernel
theorem dX9_placeOf_119 : decode cX9_placeOf 119 = .ok (.goto 7, 3) := by decide +kernel
theorem dX9_placeOf_122 : decode cX9_placeOf 122 = .ok (.bipush 18, 2) := by decide +kernel
theorem dX9_placeOf_124 : decode cX9_placeOf 124 = .ok (.iload_n 3, 1) := by decide +kernel
theorem dX9_placeOf_125 : decode cX9_placeOf 125 = .ok (.iadd, 1) := by decide +kernel
theorem dX9_placeOf_126 : decode cX9_placeOf 126 = .ok (.ireturn, 1) := by decide +kernel
theorem dX9_proof_0 : decode cX9_proof 0 = .ok (.aload_n 0, 1) := by decide +kernel
theorem dX9_proof_1 : decode cX9_proof 1 = .ok (.iconst 0, 1) := by decide +kernel
theorem dX9_proof_2 : decode cX9_proof 2 = .ok (.putfield 63, 3) := by decide +kernel
theorem dX9_proof_5 : decode cX9_proof 5 = .ok (.aload_n 0, 1) := by decide +kernel
theorem dX9_proof_6 : decode cX9_proof 6 = .ok (.iload_n 1, 1) := by decide +kernel
theorem dX9_proof_7 : decode cX9_proof 7 = .ok (.iload_n 2, 1) := by decide +kernel
theorem dX9_proof_8 : decode cX9_proof 8 = .ok (.iload_n 3, 1) := by decide +kernel
theorem dX9_proof_9 : decode cX9_proof 9 = .ok (.invokevirtual 178, 3) := by decide +kernel
theorem dX9_proof_12 : decode cX9_proof 12 = .ok (.istore 4, 2) := by decide +kernel
theorem dX9_proof_14 : decode cX9_proof 14 = .ok (.iload 4, 2) := by decide +kernel
theorem dX9_proof_16 : decode cX9_proof 16 = .ok (.ifCond .ge 8, 3) := by decide +kernel
theorem dX9_proof_19 : decode cX9_proof 19 = .ok (.iload 4, 2) := by decide +kernel
theorem dX9_proof_21 : decode cX9_proof 21 = .ok (.goto 15, 3) := by decide +kernel
theorem dX9_proof_24 : decode cX9_proof 24 = .ok (.aload_n 0, 1) := by decide +kernel
theorem dX9_proof_25 : decode cX9_proof 25 = .ok (.getfield 38, 3) := by decide +kernel
theorem dX9_proof_28 : decode cX9_proof 28 = .ok (.bipush 27, 2) := by decide +kernel
theorem dX9_proof_30 : decode cX9_proof 30 = .ok (.iload_n 1, 1) := by decide +kernel
theorem dX9_proof_31 : decode cX9_proof 31 = .ok (.imul, 1) := by decide +kernel
theorem dX9_proof_32 : decode cX9_proof 32 = .ok (.iload 4, 2) := by decide +kernel
theorem dX9_proof_34 : decode cX9_proof 34 = .ok (.iadd, 1) := by decide +kernel
theorem dX9_proof_35 : decode cX9_proof 35 = .ok (.iaload, 1) := by decide +kernel
theorem dX9_proof_36 : decode cX9_proof 36 = .ok (.ireturn, 1) := by decide +kernel
theorem dX9_plant_0 : decode cX9_plant 0 = .ok (.aload_n 0, 1) := by decide +kernel
theorem dX9_plant_1 : decode cX9_plant 1 = .ok (.iconst 0, 1) := by decide +kernel
theorem dX9_plant_2 : decode cX9_plant 2 = .ok (.putfield 63, 3) := by decide +kernel
theorem dX9_plant_5 : decode cX9_plant 5 = .ok (.aload_n 0, 1) := by decide +kernel
theorem dX9_plant_6 : decode cX9_plant 6 = .ok (.iload_n 1, 1) := by decide +kernel
theorem dX9_plant_7 : decode cX9_plant 7 = .ok (.invokevirtual 175, 3) := by decide +kernel
theorem dX9_plant_10 : decode cX9_plant 10 = .ok (.ifCond .eq 15, 3) := by decide +kernel
theorem dX9_plant_13 : decode cX9_plant 13 = .ok (.iload_n 2, 1) := by decide +kernel
theorem dX9_plant_14 : decode cX9_plant 14 = .ok (.ifCond .ne 13, 3) := by decide +kernel
theorem dX9_plant_17 : decode cX9_plant 17 = .ok (.aload_n 0, 1) := by decide +kernel
theorem dX9_plant_18 : decode cX9_plant 18 = .ok (.iload_n 3, 1) := by decide +kernel
theorem dX9_plant_19 : decode cX9_plant 19 = .ok (.invokevirtual 79, 3) := by decide +kernel
theorem dX9_plant_22 : decode cX9_plant 22 = .ok (.ifCond .ne 5, 3) := by decide +kernel
theorem dX9_plant_25 : decode cX9_plant 25 = .ok (.iconst (-1), 1) := by decide +kernel
theorem dX9_plant_26 : decode cX9_plant 26 = .ok (.ireturn, 1) := by decide +kernel
theorem dX9_plant_27 : decode cX9_plant 27 = .ok (.iload_n 2, 1) := by decide +kernel
theorem dX9_plant_28 : decode cX9_plant 28 = .ok (.ifCond .ge 8, 3) := by decide +kernel
theorem dX9_plant_31 : decode cX9_plant 31 = .ok (.bipush (-2), 2) := by decide +kernel
theorem dX9_plant_33 : decode cX9_plant 33 = .ok (.goto 38, 3) := by decide +kernel
theorem dX9_plant_36 : decode cX9_plant 36 = .ok (.iload_n 2, 1) := by decide +kernel
theorem dX9_plant_37 : decode cX9_plant 37 = .ok (.ifCond .ne 7, 3) := by decide +kernel
theorem dX9_plant_40 : decode cX9_plant 40 = .ok (.iconst 0, 1) := by decide +kernel
theorem dX9_plant_41 : decode cX9_plant 41 = .ok (.goto 30, 3) := by decide +kernel
theorem dX9_plant_44 : decode cX9_plant 44 = .ok (.iload_n 2, 1) := by decide +kernel
theorem dX9_plant_45 : decode cX9_plant 45 = .ok (.iconst 1, 1) := by decide +kernel
theorem dX9_plant_46 : decode cX9_plant 46 = .ok (.if_icmp .ne 16, 3) := by decide +kernel
theorem dX9_plant_49 : decode cX9_plant 49 = .ok (.iload_n 3, 1) := by decide +kernel
theorem dX9_plant_50 : decode cX9_plant 50 = .ok (.ifCond .ne 7, 3) := by decide +kernel
theorem dX9_plant_53 : decode cX9_plant 53 = .ok (.iconst 0, 1) := by decide +kernel
theorem dX9_plant_54 : decode cX9_plant 54 = .ok (.goto 17, 3) := by decide +kernel
theorem dX9_plant_57 : decode cX9_plant 57 = .ok (.bipush (-2), 2) := by decide +kernel
theorem dX9_plant_59 : decode cX9_plant 59 = .ok (.goto 12, 3) := by decide +kernel
theorem dX9_plant_62 : decode cX9_plant 62 = .ok (.aload_n 0, 1) := by decide +kernel
theorem dX9_plant_63 : decode cX9_plant 63 = .ok (.iload_n 1, 1) := by decide +kernel
theorem dX9_plant_64 : decode cX9_plant 64 = .ok (.iload_n 2, 1) := by decide +kernel
theorem dX9_plant_65 : decode cX9_plant 65 = .ok (.iconst 2, 1) := by decide +kernel
theorem dX9_plant_66 : decode cX9_plant 66 = .ok (.isub, 1) := by decide +kernel
theorem dX9_plant_67 : decode cX9_plant 67 = .ok (.iload_n 3, 1) := by decide +kernel
theorem dX9_plant_68 : decode cX9_plant 68 = .ok (.invokevirtual 178, 3) := by decide +kernel
theorem dX9_plant_71 : decode cX9_plant 71 = .ok (.istore 5, 2) := by decide +kernel
theorem dX9_plant_73 : decode cX9_plant 73 = .ok (.iload 5, 2) := by decide +kernel
theorem dX9_plant_75 : decode cX9_plant 75 = .ok (.iconst (-1), 1) := by decide +kernel
theorem dX9_plant_76 : decode cX9_plant 76 = .ok (.if_icmp .ne 5, 3) := by decide +kernel
theorem dX9_plant_79 : decode cX9_plant 79 = .ok (.iconst (-1), 1) := by decide +kernel
theorem dX9_plant_80 : decode cX9_plant 80 = .ok (.ireturn, 1) := by decide +kernel
theorem dX9_plant_81 : decode cX9_plant 81 = .ok (.iload 5, 2) := by decide +kernel
theorem dX9_plant_83 : decode cX9_plant 83 = .ok (.bipush (-2), 2) := by decide +kernel
theorem dX9_plant_85 : decode cX9_plant 85 = .ok (.if_icmp .eq 19, 3) := by decide +kernel
theorem dX9_plant_88 : decode cX9_plant 88 = .ok (.iload 4, 2) := by decide +kernel
theorem dX9_plant_90 : decode cX9_plant 90 = .ok (.sipush (-1000), 3) := by decide +kernel
theorem dX9_plant_93 : decode cX9_plant 93 = .ok (.if_icmp .lt 11, 3) := by decide +kernel
theorem dX9_plant_96 : decode cX9_plant 96 = .ok (.iload 4, 2) := by decide +kernel
theorem dX9_plant_98 : decode cX9_plant 98 = .ok (.sipush 1000, 3) := by decide +kernel
theorem dX9_plant_101 : decode cX9_plant 101 = .ok (.if_icmp .le 6, 3) := by decide +kernel
theorem dX9_plant_104 : decode cX9_plant 104 = .ok (.bipush (-2), 2) := by decide +kernel
theorem dX9_plant_106 : decode cX9_plant 106 = .ok (.ireturn, 1) := by decide +kernel
theorem dX9_plant_107 : decode cX9_plant 107 = .ok (.iload_n 2, 1) := by decide +kernel
theorem dX9_plant_108 : decode cX9_plant 108 = .ok (.ifCond .ne 20, 3) := by decide +kernel
theorem dX9_plant_111 : decode cX9_plant 111 = .ok (.aload_n 0, 1) := by decide +kernel
theorem dX9_plant_112 : decode cX9_plant 112 = .ok (.getfield 26, 3) := by decide +kernel
theorem dX9_plant_115 : decode cX9_plant 115 = .ok (.bipush 8, 2) := by decide +kernel
theorem dX9_plant_117 : decode cX9_plant 117 = .ok (.iload_n 1, 1) := by decide +kernel
theorem dX9_plant_118 : decode cX9_plant 118 = .ok (.imul, 1) := by decide +kernel
theorem dX9_plant_119 : decode cX9_plant 119 = .ok (.iload_n 3, 1) := by decide +kernel
theorem dX9_plant_120 : decode cX9_plant 120 = .ok (.iadd, 1) := by decide +kernel
theorem dX9_plant_121 : decode cX9_plant 121 = .ok (.iload 4, 2) := by decide +kernel
theorem dX9_plant_123 : decode cX9_plant 123 = .ok (.i2l, 1) := by decide +kernel
theorem dX9_plant_124 : decode cX9_plant 124 = .ok (.lastore, 1) := by decide +kernel
theorem dX9_plant_125 : decode cX9_plant 125 = .ok (.goto 34, 3) := by decide +kernel
theorem dX9_plant_128 : decode cX9_plant 128 = .ok (.iload_n 2, 1) := by decide +kernel
theorem dX9_plant_129 : decode cX9_plant 129 = .ok (.iconst 1, 1) := by decide +kernel
theorem dX9_plant_130 : decode cX9_plant 130 = .ok (.if_icmp .ne 15, 3) := by decide +kernel
theorem dX9_plant_133 : decode cX9_plant 133 = .ok (.aload_n 0, 1) := by decide +kernel
theorem dX9_plant_134 : decode cX9_plant 134 = .ok (.getfield 29, 3) := by decide +kernel
theorem dX9_plant_137 : decode cX9_plant 137 = .ok (.iload_n 1, 1) := by decide +kernel
theorem dX9_plant_138 : decode cX9_plant 138 = .ok (.iload 4, 2) := by decide +kernel
theorem dX9_plant_140 : decode cX9_plant 140 = .ok (.i2l, 1) := by decide +kernel
theorem dX9_plant_141 : decode cX9_plant 141 = .ok (.lastore, 1) := by decide +kernel
theorem dX9_plant_142 : decode cX9_plant 142 = .ok (.goto 17, 3) := by decide +kernel
theorem dX9_plant_145 : decode cX9_plant 145 = .ok (.aload_n 0, 1) := by decide +kernel
theorem dX9_plant_146 : decode cX9_plant 146 = .ok (.getfield 38, 3) := by decide +kernel
theorem dX9_plant_149 : decode cX9_plant 149 = .ok (.bipush 27, 2) := by decide +kernel
theorem dX9_plant_151 : decode cX9_plant 151 = .ok (.iload_n 1, 1) := by decide +kernel
theorem dX9_plant_152 : decode cX9_plant 152 = .ok (.imul, 1) := by decide +kernel
theorem dX9_plant_153 : decode cX9_plant 153 = .ok (.iload 5, 2) := by decide +kernel
theorem dX9_plant_155 : decode cX9_plant 155 = .ok (.iadd, 1) := by decide +kernel
theorem dX9_plant_156 : decode cX9_plant 156 = .ok (.iload 4, 2) := by decide +kernel
theorem dX9_plant_158 : decode cX9_plant 158 = .ok (.iastore, 1) := by decide +kernel
theorem dX9_plant_159 : decode cX9_plant 159 = .ok (.iconst 1, 1) := by decide +kernel
theorem dX9_plant_160 : decode cX9_plant 160 = .ok (.ireturn, 1) := by decide +kernel
theorem dX9_acceptsSum_0 : decode cX9_acceptsSum 0 = .ok (.bipush 27, 2) := by decide +kernel
theorem dX9_acceptsSum_2 : decode cX9_acceptsSum 2 = .ok (.iload_n 1, 1) := by decide +kernel
theorem dX9_acceptsSum_3 : decode cX9_acceptsSum 3 = .ok (.imul, 1) := by decide +kernel
theorem dX9_acceptsSum_4 : decode cX9_acceptsSum 4 = .ok (.istore_n 2, 1) := by decide +kernel
theorem dX9_acceptsSum_5 : decode cX9_acceptsSum 5 = .ok (.aload_n 0, 1) := by decide +kernel
theorem dX9_acceptsSum_6 : decode cX9_acceptsSum 6 = .ok (.getfield 38, 3) := by decide +kernel
theorem dX9_acceptsSum_9 : decode cX9_acceptsSum 9 = .ok (.iload_n 2, 1) := by decide +kernel
theorem dX9_acceptsSum_10 : decode cX9_acceptsSum 10 = .ok (.bipush 26, 2) := by decide +kernel
theorem dX9_acceptsSum_12 : decode cX9_acceptsSum 12 = .ok (.iadd, 1) := by decide +kernel
theorem dX9_acceptsSum_13 : decode cX9_acceptsSum 13 = .ok (.iaload, 1) := by decide +kernel
theorem dX9_acceptsSum_14 : decode cX9_acceptsSum 14 = .ok (.i2l, 1) := by decide +kernel
theorem dX9_acceptsSum_15 : decode cX9_acceptsSum 15 = .ok (.lstore_n 3, 1) := by decide +kernel
theorem dX9_acceptsSum_16 : decode cX9_acceptsSum 16 = .ok (.lload_n 3, 1) := by decide +kernel
theorem dX9_acceptsSum_17 : decode cX9_acceptsSum 17 = .ok (.lconst 1, 1) := by decide +kernel
theorem dX9_acceptsSum_18 : decode cX9_acceptsSum 18 = .ok (.lcmp, 1) := by decide +kernel
theorem dX9_acceptsSum_19 : decode cX9_acceptsSum 19 = .ok (.ifCond .lt 7, 3) := by decide +kernel
theorem dX9_acceptsSum_22 : decode cX9_acceptsSum 22 = .ok (.iconst 1, 1) := by decide +kernel
theorem dX9_acceptsSum_23 : decode cX9_acceptsSum 23 = .ok (.goto 4, 3) := by decide +kernel
theorem dX9_acceptsSum_26 : decode cX9_acceptsSum 26 = .ok (.iconst 0, 1) := by decide +kernel
theorem dX9_acceptsSum_27 : decode cX9_acceptsSum 27 = .ok (.istore 5, 2) := by decide +kernel
theorem dX9_acceptsSum_29 : decode cX9_acceptsSum 29 = .ok (.lconst 0, 1) := by decide +kernel
theorem dX9_acceptsSum_30 : decode cX9_acceptsSum 30 = .ok (.lstore 6, 2) := by decide +kernel
theorem dX9_acceptsSum_32 : decode cX9_acceptsSum 32 = .ok (.iconst 0, 1) := by decide +kernel
theorem dX9_acceptsSum_33 : decode cX9_acceptsSum 33 = .ok (.istore 8, 2) := by decide +kernel
theorem dX9_acceptsSum_35 : decode cX9_acceptsSum 35 = .ok (.iload 8, 2) := by decide +kernel
theorem dX9_acceptsSum_37 : decode cX9_acceptsSum 37 = .ok (.aload_n 0, 1) := by decide +kernel
theorem dX9_acceptsSum_38 : decode cX9_acceptsSum 38 = .ok (.getfield 72, 3) := by decide +kernel
theorem dX9_acceptsSum_41 : decode cX9_acceptsSum 41 = .ok (.if_icmp .ge 57, 3) := by decide +kernel
theorem dX9_acceptsSum_44 : decode cX9_acceptsSum 44 = .ok (.iload 5, 2) := by decide +kernel
theorem dX9_acceptsSum_46 : decode cX9_acceptsSum 46 = .ok (.ifCond .eq 19, 3) := by decide +kernel
theorem dX9_acceptsSum_49 : decode cX9_acceptsSum 49 = .ok (.aload_n 0, 1) := by decide +kernel
theorem dX9_acceptsSum_50 : decode cX9_acceptsSum 50 = .ok (.getfield 38, 3) := by decide +kernel
theorem dX9_acceptsSum_53 : decode cX9_acceptsSum 53 = .ok (.iload_n 2, 1) := by decide +kernel
theorem dX9_acceptsSum_54 : decode cX9_acceptsSum 54 = .ok (.iload 8, 2) := by decide +kernel
theorem dX9_acceptsSum_56 : decode cX9_acceptsSum 56 = .ok (.iadd, 1) := by decide +kernel
theorem dX9_acceptsSum_57 : decode cX9_acceptsSum 57 = .ok (.iaload, 1) := by decide +kernel
theorem dX9_acceptsSum_58 : decode cX9_acceptsSum 58 = .ok (.ifCond .lt 7, 3) := by decide +kernel
theorem dX9_acceptsSum_61 : decode cX9_acceptsSum 61 = .ok (.iconst 1, 1) := by decide +kernel
theorem dX9_acceptsSum_62 : decode cX9_acceptsSum 62 = .ok (.goto 4, 3) := by decide +kernel
theorem dX9_acceptsSum_65 : decode cX9_acceptsSum 65 = .ok (.iconst 0, 1) := by decide +kernel
theorem dX9_acceptsSum_66 : decode cX9_acceptsSum 66 = .ok (.istore 5, 2) := by decide +kernel
theorem dX9_acceptsSum_68 : decode cX9_acceptsSum 68 = .ok (.lload 6, 2) := by decide +kernel
theorem dX9_acceptsSum_70 : decode cX9_acceptsSum 70 = .ok (.aload_n 0, 1) := by decide +kernel
theorem dX9_acceptsSum_71 : decode cX9_acceptsSum 71 = .ok (.getfield 38, 3) := by decide +kernel
theorem dX9_acceptsSum_74 : decode cX9_acceptsSum 74 = .ok (.iload_n 2, 1) := by decide +kernel
theorem dX9_acceptsSum_75 : decode cX9_acceptsSum 75 = .ok (.iload 8, 2) := by decide +kernel
theorem dX9_acceptsSum_77 : decode cX9_acceptsSum 77 = .ok (.iadd, 1) := by decide +kernel
theorem dX9_acceptsSum_78 : decode cX9_acceptsSum 78 = .ok (.iaload, 1) := by decide +kernel
theorem dX9_acceptsSum_79 : decode cX9_acceptsSum 79 = .ok (.i2l, 1) := by decide +kernel
theorem dX9_acceptsSum_80 : decode cX9_acceptsSum 80 = .ok (.aload_n 0, 1) := by decide +kernel
theorem dX9_acceptsSum_81 : decode cX9_acceptsSum 81 = .ok (.getfield 20, 3) := by decide +kernel
theorem dX9_acceptsSum_84 : decode cX9_acceptsSum 84 = .ok (.iload 8, 2) := by decide +kernel
theorem dX9_acceptsSum_86 : decode cX9_acceptsSum 86 = .ok (.iaload, 1) := by decide +kernel
theorem dX9_acceptsSum_87 : decode cX9_acceptsSum 87 = .ok (.i2l, 1) := by decide +kernel
theorem dX9_acceptsSum_88 : decode cX9_acceptsSum 88 = .ok (.lmul, 1) := by decide +kernel
theorem dX9_acceptsSum_89 : decode cX9_acceptsSum 89 = .ok (.ladd, 1) := by decide +kernel
theorem dX9_acceptsSum_90 : decode cX9_acceptsSum 90 = .ok (.lstore 6, 2) := by decide +kernel
theorem dX9_acceptsSum_92 : decode cX9_acceptsSum 92 = .ok (.iinc 8 1, 3) := by decide +kernel
theorem dX9_acceptsSum_95 : decode cX9_acceptsSum 95 = .ok (.goto (-60), 3) := by decide +kernel
theorem dX9_acceptsSum_98 : decode cX9_acceptsSum 98 = .ok (.iconst 0, 1) := by decide +kernel
theorem dX9_acceptsSum_99 : decode cX9_acceptsSum 99 = .ok (.istore 8, 2) := by decide +kernel
theorem dX9_acceptsSum_101 : decode cX9_acceptsSum 101 = .ok (.iload 8, 2) := by decide +kernel
theorem dX9_acceptsSum_103 : decode cX9_acceptsSum 103 = .ok (.aload_n 0, 1) := by decide +kernel
theorem dX9_acceptsSum_104 : decode cX9_acceptsSum 104 = .ok (.getfield 66, 3) := by decide +kernel
theorem dX9_acceptsSum_107 : decode cX9_acceptsSum 107 = .ok (.if_icmp .ge 178, 3) := by decide +kernel
theorem dX9_acceptsSum_110 : decode cX9_acceptsSum 110 = .ok (.aload_n 0, 1) := by decide +kernel
theorem dX9_acceptsSum_111 : decode cX9_acceptsSum 111 = .ok (.getfield 38, 3) := by decide +kernel
theorem dX9_acceptsSum_114 : decode cX9_acceptsSum 114 = .ok (.iload_n 2, 1) := by decide +kernel
theorem dX9_acceptsSum_115 : decode cX9_acceptsSum 115 = .ok (.bipush 10, 2) := by decide +kernel
theorem dX9_acceptsSum_117 : decode cX9_acceptsSum 117 = .ok (.iadd, 1) := by decide +kernel
theorem dX9_acceptsSum_118 : decode cX9_acceptsSum 118 = .ok (.iload 8, 2) := by decide +kernel
theorem dX9_acceptsSum_120 : decode cX9_acceptsSum 120 = .ok (.iadd, 1) := by decide +kernel
theorem dX9_acceptsSum_121 : decode cX9_acceptsSum 121 = .ok (.iaload, 1) := by decide +kernel
theorem dX9_acceptsSum_122 : decode cX9_acceptsSum 122 = .ok (.istore 9, 2) := by decide +kernel
theorem dX9_acceptsSum_124 : decode cX9_acceptsSum 124 = .ok (.aload_n 0, 1) := by decide +kernel
theorem dX9_acceptsSum_125 : decode cX9_acceptsSum 125 = .ok (.getfield 38, 3) := by decide +kernel
theorem dX9_acceptsSum_128 : decode cX9_acceptsSum 128 = .ok (.iload_n 2, 1) := by decide +kernel
theorem dX9_acceptsSum_129 : decode cX9_acceptsSum 129 = .ok (.bipush 18, 2) := by decide +kernel
theorem dX9_acceptsSum_131 : decode cX9_acceptsSum 131 = .ok (.iadd, 1) := by decide +kernel
theorem dX9_acceptsSum_132 : decode cX9_acceptsSum 132 = .ok (.iload 8, 2) := by decide +kernel
theorem dX9_acceptsSum_134 : decode cX9_acceptsSum 134 = .ok (.iadd, 1) := by decide +kernel
theorem dX9_acceptsSum_135 : decode cX9_acceptsSum 135 = .ok (.iaload, 1) := by decide +kernel
theorem dX9_acceptsSum_136 : decode cX9_acceptsSum 136 = .ok (.istore 10, 2) := by decide +kernel
theorem dX9_acceptsSum_138 : decode cX9_acceptsSum 138 = .ok (.iload 5, 2) := by decide +kernel
theorem dX9_acceptsSum_140 : decode cX9_acceptsSum 140 = .ok (.ifCond .eq 17, 3) := by decide +kernel
theorem dX9_acceptsSum_143 : decode cX9_acceptsSum 143 = .ok (.iload 9, 2) := by decide +kernel
theorem dX9_acceptsSum_145 : decode cX9_acceptsSum 145 = .ok (.ifCond .lt 12, 3) := by decide +kernel
theorem dX9_acceptsSum_148 : decode cX9_acceptsSum 148 = .ok (.iload 10, 2) := by decide +kernel
theorem dX9_acceptsSum_150 : decode cX9_acceptsSum 150 = .ok (.ifCond .lt 7, 3) := by decide +kernel
theorem dX9_acceptsSum_153 : decode cX9_acceptsSum 153 = .ok (.iconst 1, 1) := by decide +kernel
theorem dX9_acceptsSum_154 : decode cX9_acceptsSum 154 = .ok (.goto 4, 3) := by decide +kernel
theorem dX9_acceptsSum_157 : decode cX9_acceptsSum 157 = .ok (.iconst 0, 1) := by decide +kernel
theorem dX9_acceptsSum_158 : decode cX9_acceptsSum 158 = .ok (.istore 5, 2) := by decide +kernel
theorem dX9_acceptsSum_160 : decode cX9_acceptsSum 160 = .ok (.lload 6, 2) := by decide +kernel
theorem dX9_acceptsSum_162 : decode cX9_acceptsSum 162 = .ok (.iload 10, 2) := by decide +kernel
theorem dX9_acceptsSum_164 : decode cX9_acceptsSum 164 = .ok (.i2l, 1) := by decide +kernel
theorem dX9_acceptsSum_165 : decode cX9_acceptsSum 165 = .ok (.aload_n 0, 1) := by decide +kernel
theorem dX9_acceptsSum_166 : decode cX9_acceptsSum 166 = .ok (.getfield 13, 3) := by decide +kernel
theorem dX9_acceptsSum_169 : decode cX9_acceptsSum 169 = .ok (.iload 8, 2) := by decide +kernel
theorem dX9_acceptsSum_171 : decode cX9_acceptsSum 171 = .ok (.iaload, 1) := by decide +kernel
theorem dX9_acceptsSum_172 : decode cX9_acceptsSum 172 = .ok (.i2l, 1) := by decide +kernel
theorem dX9_acceptsSum_173 : decode cX9_acceptsSum 173 = .ok (.lmul, 1) := by decide +kernel
theorem dX9_acceptsSum_174 : decode cX9_acceptsSum 174 = .ok (.iload 9, 2) := by decide +kernel
theorem dX9_acceptsSum_176 : decode cX9_acceptsSum 176 = .ok (.i2l, 1) := by decide +kernel
theorem dX9_acceptsSum_177 : decode cX9_acceptsSum 177 = .ok (.aload_n 0, 1) := by decide +kernel
theorem dX9_acceptsSum_178 : decode cX9_acceptsSum 178 = .ok (.getfield 7, 3) := by decide +kernel
theorem dX9_acceptsSum_181 : decode cX9_acceptsSum 181 = .ok (.iload 8, 2) := by decide +kernel
theorem dX9_acceptsSum_183 : decode cX9_acceptsSum 183 = .ok (.iaload, 1) := by decide +kernel
theorem dX9_acceptsSum_184 : decode cX9_acceptsSum 184 = .ok (.i2l, 1) := by decide +kernel
theorem dX9_acceptsSum_185 : decode cX9_acceptsSum 185 = .ok (.lmul, 1) := by decide +kernel
theorem dX9_acceptsSum_186 : decode cX9_acceptsSum 186 = .ok (.lsub, 1) := by decide +kernel
theorem dX9_acceptsSum_187 : decode cX9_acceptsSum 187 = .ok (.ladd, 1) := by decide +kernel
theorem dX9_acceptsSum_188 : decode cX9_acceptsSum 188 = .ok (.lstore 6, 2) := by decide +kernel
theorem dX9_acceptsSum_190 : decode cX9_acceptsSum 190 = .ok (.iload 10, 2) := by decide +kernel
theorem dX9_acceptsSum_192 : decode cX9_acceptsSum 192 = .ok (.i2l, 1) := by decide +kernel
theorem dX9_acceptsSum_193 : decode cX9_acceptsSum 193 = .ok (.iload 9, 2) := by decide +kernel
theorem dX9_acceptsSum_195 : decode cX9_acceptsSum 195 = .ok (.i2l, 1) := by decide +kernel
theorem dX9_acceptsSum_196 : decode cX9_acceptsSum 196 = .ok (.lsub, 1) := by decide +kernel
theorem dX9_acceptsSum_197 : decode cX9_acceptsSum 197 = .ok (.lstore 11, 2) := by decide +kernel
theorem dX9_acceptsSum_199 : decode cX9_acceptsSum 199 = .ok (.iconst 0, 1) := by decide +kernel
theorem dX9_acceptsSum_200 : decode cX9_acceptsSum 200 = .ok (.istore 13, 2) := by decide +kernel
theorem dX9_acceptsSum_202 : decode cX9_acceptsSum 202 = .ok (.iload 13, 2) := by decide +kernel
theorem dX9_acceptsSum_204 : decode cX9_acceptsSum 204 = .ok (.aload_n 0, 1) := by decide +kernel
theorem dX9_acceptsSum_205 : decode cX9_acceptsSum 205 = .ok (.getfield 72, 3) := by decide +kernel
theorem dX9_acceptsSum_208 : decode cX9_acceptsSum 208 = .ok (.if_icmp .ge 39, 3) := by decide +kernel
theorem dX9_acceptsSum_211 : decode cX9_acceptsSum 211 = .ok (.lload 11, 2) := by decide +kernel
theorem dX9_acceptsSum_213 : decode cX9_acceptsSum 213 = .ok (.aload_n 0, 1) := by decide +kernel
theorem dX9_acceptsSum_214 : decode cX9_acceptsSum 214 = .ok (.getfield 38, 3) := by decide +kernel
theorem dX9_acceptsSum_217 : decode cX9_acceptsSum 217 = .ok (.iload_n 2, 1) := by decide +kernel
theorem dX9_acceptsSum_218 : decode cX9_acceptsSum 218 = .ok (.iload 13, 2) := by decide +kernel
theorem dX9_acceptsSum_220 : decode cX9_acceptsSum 220 = .ok (.iadd, 1) := by decide +kernel
theorem dX9_acceptsSum_221 : decode cX9_acceptsSum 221 = .ok (.iaload, 1) := by decide +kernel
theorem dX9_acceptsSum_222 : decode cX9_acceptsSum 222 = .ok (.i2l, 1) := by decide +kernel
theorem dX9_acceptsSum_223 : decode cX9_acceptsSum 223 = .ok (.aload_n 0, 1) := by decide +kernel
theorem dX9_acceptsSum_224 : decode cX9_acceptsSum 224 = .ok (.getfield 23, 3) := by decide +kernel
theorem dX9_acceptsSum_227 : decode cX9_acceptsSum 227 = .ok (.bipush 8, 2) := by decide +kernel
theorem dX9_acceptsSum_229 : decode cX9_acceptsSum 229 = .ok (.iload 13, 2) := by decide +kernel
theorem dX9_acceptsSum_231 : decode cX9_acceptsSum 231 = .ok (.imul, 1) := by decide +kernel
theorem dX9_acceptsSum_232 : decode cX9_acceptsSum 232 = .ok (.iload 8, 2) := by decide +kernel
theorem dX9_acceptsSum_234 : decode cX9_acceptsSum 234 = .ok (.iadd, 1) := by decide +kernel
theorem dX9_acceptsSum_235 : decode cX9_acceptsSum 235 = .ok (.iaload, 1) := by decide +kernel
theorem dX9_acceptsSum_236 : decode cX9_acceptsSum 236 = .ok (.i2l, 1) := by decide +kernel
theorem dX9_acceptsSum_237 : decode cX9_acceptsSum 237 = .ok (.lmul, 1) := by decide +kernel
theorem dX9_acceptsSum_238 : decode cX9_acceptsSum 238 = .ok (.ladd, 1) := by decide +kernel
theorem dX9_acceptsSum_239 : decode cX9_acceptsSum 239 = .ok (.lstore 11, 2) := by decide +kernel
theorem dX9_acceptsSum_241 : decode cX9_acceptsSum 241 = .ok (.iinc 13 1, 3) := by decide +kernel
theorem dX9_acceptsSum_244 : decode cX9_acceptsSum 244 = .ok (.goto (-42), 3) := by decide +kernel
theorem dX9_acceptsSum_247 : decode cX9_acceptsSum 247 = .ok (.iload 5, 2) := by decide +kernel
theorem dX9_acceptsSum_249 : decode cX9_acceptsSum 249 = .ok (.ifCond .eq 27, 3) := by decide +kernel
theorem dX9_acceptsSum_252 : decode cX9_acceptsSum 252 = .ok (.lload 11, 2) := by decide +kernel
theorem dX9_acceptsSum_254 : decode cX9_acceptsSum 254 = .ok (.lload_n 3, 1) := by decide +kernel
theorem dX9_acceptsSum_255 : decode cX9_acceptsSum 255 = .ok (.aload_n 0, 1) := by decide +kernel
theorem dX9_acceptsSum_256 : decode cX9_acceptsSum 256 = .ok (.getfield 26, 3) := by decide +kernel
theorem dX9_acceptsSum_259 : decode cX9_acceptsSum 259 = .ok (.bipush 8, 2) := by decide +kernel
theorem dX9_acceptsSum_261 : decode cX9_acceptsSum 261 = .ok (.iload_n 1, 1) := by decide +kernel
theorem dX9_acceptsSum_262 : decode cX9_acceptsSum 262 = .ok (.imul, 1) := by decide +kernel
theorem dX9_acceptsSum_263 : decode cX9_acceptsSum 263 = .ok (.iload 8, 2) := by decide +kernel
theorem dX9_acceptsSum_265 : decode cX9_acceptsSum 265 = .ok (.iadd, 1) := by decide +kernel
theorem dX9_acceptsSum_266 : decode cX9_acceptsSum 266 = .ok (.laload, 1) := by decide +kernel
theorem dX9_acceptsSum_267 : decode cX9_acceptsSum 267 = .ok (.lmul, 1) := by decide +kernel
theorem dX9_acceptsSum_268 : decode cX9_acceptsSum 268 = .ok (.lcmp, 1) := by decide +kernel
theorem dX9_acceptsSum_269 : decode cX9_acceptsSum 269 = .ok (.ifCond .ne 7, 3) := by decide +kernel
theorem dX9_acceptsSum_272 : decode cX9_acceptsSum 272 = .ok (.iconst 1, 1) := by decide +kernel
theorem dX9_acceptsSum_273 : decode cX9_acceptsSum 273 = .ok (.goto 4, 3) := by decide +kernel
theorem dX9_acceptsSum_276 : decode cX9_acceptsSum 276 = .ok (.iconst 0, 1) := by decide +kernel
theorem dX9_acceptsSum_277 : decode cX9_acceptsSum 277 = .ok (.istore 5, 2) := by decide +kernel
theorem dX9_acceptsSum_279 : decode cX9_acceptsSum 279 = .ok (.iinc 8 1, 3) := by decide +kernel
theorem dX9_acceptsSum_282 : decode cX9_acceptsSum 282 = .ok (.goto (-181), 3) := by decide +kernel
theorem dX9_acceptsSum_285 : decode cX9_acceptsSum 285 = .ok (.iload 5, 2) := by decide +kernel
theorem dX9_acceptsSum_287 : decode cX9_acceptsSum 287 = .ok (.ifCond .eq 33, 3) := by decide +kernel
theorem dX9_acceptsSum_290 : decode cX9_acceptsSum 290 = .ok (.aload_n 0, 1) := by decide +kernel
theorem dX9_acceptsSum_291 : decode cX9_acceptsSum 291 = .ok (.getfield 29, 3) := by decide +kernel
theorem dX9_acceptsSum_294 : decode cX9_acceptsSum 294 = .ok (.iload_n 1, 1) := by decide +kernel
theorem dX9_acceptsSum_295 : decode cX9_acceptsSum 295 = .ok (.laload, 1) := by decide +kernel
theorem dX9_acceptsSum_296 : decode cX9_acceptsSum 296 = .ok (.lload 6, 2) := by decide +kernel
theorem dX9_acceptsSum_298 : decode cX9_acceptsSum 298 = .ok (.lload_n 3, 1) := by decide +kernel
theorem dX9_acceptsSum_299 : decode cX9_acceptsSum 299 = .ok (.lconst 1, 1) := by decide +kernel
theorem dX9_acceptsSum_300 : decode cX9_acceptsSum 300 = .ok (.lcmp, 1) := by decide +kernel
theorem dX9_acceptsSum_301 : decode cX9_acceptsSum 301 = .ok (.ifCond .ge 7, 3) := by decide +kernel
theorem dX9_acceptsSum_304 : decode cX9_acceptsSum 304 = .ok (.lconst 1, 1) := by decide +kernel
theorem dX9_acceptsSum_305 : decode cX9_acceptsSum 305 = .ok (.goto 4, 3) := by decide +kernel
theorem dX9_acceptsSum_308 : decode cX9_acceptsSum 308 = .ok (.lload_n 3, 1) := by decide +kernel
theorem dX9_acceptsSum_309 : decode cX9_acceptsSum 309 = .ok (.invokestatic 95, 3) := by decide +kernel
theorem dX9_acceptsSum_312 : decode cX9_acceptsSum 312 = .ok (.lcmp, 1) := by decide +kernel
theorem dX9_acceptsSum_313 : decode cX9_acceptsSum 313 = .ok (.ifCond .lt 7, 3) := by decide +kernel
theorem dX9_acceptsSum_316 : decode cX9_acceptsSum 316 = .ok (.iconst 1, 1) := by decide +kernel
theorem dX9_acceptsSum_317 : decode cX9_acceptsSum 317 = .ok (.goto 4, 3) := by decide +kernel
theorem dX9_acceptsSum_320 : decode cX9_acceptsSum 320 = .ok (.iconst 0, 1) := by decide +kernel
theorem dX9_acceptsSum_321 : decode cX9_acceptsSum 321 = .ok (.ireturn, 1) := by decide +kernel
theorem dX9_acceptsCover_0 : decode cX9_acceptsCover 0 = .ok (.aload_n 0, 1) := by decide +kernel
theorem dX9_acceptsCover_1 : decode cX9_acceptsCover 1 = .ok (.getfield 38, 3) := by decide +kernel
theorem dX9_acceptsCover_4 : decode cX9_acceptsCover 4 = .ok (.bipush 27, 2) := by decide +kernel
theorem dX9_acceptsCover_6 : decode cX9_acceptsCover 6 = .ok (.iload_n 1, 1) := by decide +kernel
theorem dX9_acceptsCover_7 : decode cX9_acceptsCover 7 = .ok (.imul, 1) := by decide +kernel
theorem dX9_acceptsCover_8 : decode cX9_acceptsCover 8 = .ok (.iaload, 1) := by decide +kernel
theorem dX9_acceptsCover_9 : decode cX9_acceptsCover 9 = .ok (.istore_n 2, 1) := by decide +kernel
theorem dX9_acceptsCover_10 : decode cX9_acceptsCover 10 = .ok (.aload_n 0, 1) := by decide +kernel
theorem dX9_acceptsCover_11 : decode cX9_acceptsCover 11 = .ok (.iload_n 2, 1) := by decide +kernel
theorem dX9_acceptsCover_12 : decode cX9_acceptsCover 12 = .ok (.invokevirtual 75, 3) := by decide +kernel
theorem dX9_acceptsCover_15 : decode cX9_acceptsCover 15 = .ok (.ifCond .ne 5, 3) := by decide +kernel
theorem dX9_acceptsCover_18 : decode cX9_acceptsCover 18 = .ok (.iconst 0, 1) := by decide +kernel
theorem dX9_acceptsCover_19 : decode cX9_acceptsCover 19 = .ok (.ireturn, 1) := by decide +kernel
theorem dX9_acceptsCover_20 : decode cX9_acceptsCover 20 = .ok (.iconst 0, 1) := by decide +kernel
theorem dX9_acceptsCover_21 : decode cX9_acceptsCover 21 = .ok (.istore_n 3, 1) := by decide +kernel
theorem dX9_acceptsCover_22 : decode cX9_acceptsCover 22 = .ok (.lconst 0, 1) := by decide +kernel
theorem dX9_acceptsCover_23 : decode cX9_acceptsCover 23 = .ok (.lstore 4, 2) := by decide +kernel
theorem dX9_acceptsCover_25 : decode cX9_acceptsCover 25 = .ok (.iconst 0, 1) := by decide +kernel
theorem dX9_acceptsCover_26 : decode cX9_acceptsCover 26 = .ok (.istore 6, 2) := by decide +kernel
theorem dX9_acceptsCover_28 : decode cX9_acceptsCover 28 = .ok (.iload 6, 2) := by decide +kernel
theorem dX9_acceptsCover_30 : decode cX9_acceptsCover 30 = .ok (.aload_n 0, 1) := by decide +kernel
theorem dX9_acceptsCover_31 : decode cX9_acceptsCover 31 = .ok (.getfield 66, 3) := by decide +kernel
theorem dX9_acceptsCover_34 : decode cX9_acceptsCover 34 = .ok (.if_icmp .ge 60, 3) := by decide +kernel
theorem dX9_acceptsCover_37 : decode cX9_acceptsCover 37 = .ok (.aload_n 0, 1) := by decide +kernel
theorem dX9_acceptsCover_38 : decode cX9_acceptsCover 38 = .ok (.getfield 26, 3) := by decide +kernel
theorem dX9_acceptsCover_41 : decode cX9_acceptsCover 41 = .ok (.bipush 8, 2) := by decide +kernel
theorem dX9_acceptsCover_43 : decode cX9_acceptsCover 43 = .ok (.iload_n 1, 1) := by decide +kernel
theorem dX9_acceptsCover_44 : decode cX9_acceptsCover 44 = .ok (.imul, 1) := by decide +kernel
theorem dX9_acceptsCover_45 : decode cX9_acceptsCover 45 = .ok (.iload 6, 2) := by decide +kernel
theorem dX9_acceptsCover_47 : decode cX9_acceptsCover 47 = .ok (.iadd, 1) := by decide +kernel
theorem dX9_acceptsCover_48 : decode cX9_acceptsCover 48 = .ok (.laload, 1) := by decide +kernel
theorem dX9_acceptsCover_49 : decode cX9_acceptsCover 49 = .ok (.lconst 0, 1) := by decide +kernel
theorem dX9_acceptsCover_50 : decode cX9_acceptsCover 50 = .ok (.lcmp, 1) := by decide +kernel
theorem dX9_acceptsCover_51 : decode cX9_acceptsCover 51 = .ok (.ifCond .ne 19, 3) := by decide +kernel
theorem dX9_acceptsCover_54 : decode cX9_acceptsCover 54 = .ok (.lload 4, 2) := by decide +kernel
theorem dX9_acceptsCover_56 : decode cX9_acceptsCover 56 = .ok (.aload_n 0, 1) := by decide +kernel
theorem dX9_acceptsCover_57 : decode cX9_acceptsCover 57 = .ok (.iload_n 2, 1) := by decide +kernel
theorem dX9_acceptsCover_58 : decode cX9_acceptsCover 58 = .ok (.iload 6, 2) := by decide +kernel
theorem dX9_acceptsCover_60 : decode cX9_acceptsCover 60 = .ok (.invokevirtual 133, 3) := by decide +kernel
theorem dX9_acceptsCover_63 : decode cX9_acceptsCover 63 = .ok (.i2l, 1) := by decide +kernel
theorem dX9_acceptsCover_64 : decode cX9_acceptsCover 64 = .ok (.ladd, 1) := by decide +kernel
theorem dX9_acceptsCover_65 : decode cX9_acceptsCover 65 = .ok (.lstore 4, 2) := by decide +kernel
theorem dX9_acceptsCover_67 : decode cX9_acceptsCover 67 = .ok (.goto 21, 3) := by decide +kernel
theorem dX9_acceptsCover_70 : decode cX9_acceptsCover 70 = .ok (.aload_n 0, 1) := by decide +kernel
theorem dX9_acceptsCover_71 : decode cX9_acceptsCover 71 = .ok (.iload 6, 2) := by decide +kernel
theorem dX9_acceptsCover_73 : decode cX9_acceptsCover 73 = .ok (.invokevirtual 130, 3) := by decide +kernel
theorem dX9_acceptsCover_76 : decode cX9_acceptsCover 76 = .ok (.ifCond .ne 5, 3) := by decide +kernel
theorem dX9_acceptsCover_79 : decode cX9_acceptsCover 79 = .ok (.iconst 0, 1) := by decide +kernel
theorem dX9_acceptsCover_80 : decode cX9_acceptsCover 80 = .ok (.ireturn, 1) := by decide +kernel
theorem dX9_acceptsCover_81 : decode cX9_acceptsCover 81 = .ok (.iload_n 3, 1) := by decide +kernel
theorem dX9_acceptsCover_82 : decode cX9_acceptsCover 82 = .ok (.iconst 1, 1) := by decide +kernel
theorem dX9_acceptsCover_83 : decode cX9_acceptsCover 83 = .ok (.iload 6, 2) := by decide +kernel
theorem dX9_acceptsCover_85 : decode cX9_acceptsCover 85 = .ok (.ishl, 1) := by decide +kernel
theorem dX9_acceptsCover_86 : decode cX9_acceptsCover 86 = .ok (.ior, 1) := by decide +kernel
theorem dX9_acceptsCover_87 : decode cX9_acceptsCover 87 = .ok (.istore_n 3, 1) := by decide +kernel
theorem dX9_acceptsCover_88 : decode cX9_acceptsCover 88 = .ok (.iinc 6 1, 3) := by decide +kernel
theorem dX9_acceptsCover_91 : decode cX9_acceptsCover 91 = .ok (.goto (-63), 3) := by decide +kernel
theorem dX9_acceptsCover_94 : decode cX9_acceptsCover 94 = .ok (.iconst 0, 1) := by decide +kernel
theorem dX9_acceptsCover_95 : decode cX9_acceptsCover 95 = .ok (.istore 6, 2) := by decide +kernel
theorem dX9_acceptsCover_97 : decode cX9_acceptsCover 97 = .ok (.iload 6, 2) := by decide +kernel
theorem dX9_acceptsCover_99 : decode cX9_acceptsCover 99 = .ok (.iconst 1, 1) := by decide +kernel
theorem dX9_acceptsCover_100 : decode cX9_acceptsCover 100 = .ok (.aload_n 0, 1) := by decide +kernel
theorem dX9_acceptsCover_101 : decode cX9_acceptsCover 101 = .ok (.getfield 66, 3) := by decide +kernel
theorem dX9_acceptsCover_104 : decode cX9_acceptsCover 104 = .ok (.ishl, 1) := by decide +kernel
theorem dX9_acceptsCover_105 : decode cX9_acceptsCover 105 = .ok (.if_icmp .ge 116, 3) := by decide +kernel
theorem dX9_acceptsCover_108 : decode cX9_acceptsCover 108 = .ok (.iload 6, 2) := by decide +kernel
theorem dX9_acceptsCover_110 : decode cX9_acceptsCover 110 = .ok (.iload_n 3, 1) := by decide +kernel
theorem dX9_acceptsCover_111 : decode cX9_acceptsCover 111 = .ok (.iand, 1) := by decide +kernel
theorem dX9_acceptsCover_112 : decode cX9_acceptsCover 112 = .ok (.iload 6, 2) := by decide +kernel
theorem dX9_acceptsCover_114 : decode cX9_acceptsCover 114 = .ok (.if_icmp .ne 101, 3) := by decide +kernel
theorem dX9_acceptsCover_117 : decode cX9_acceptsCover 117 = .ok (.lload 4, 2) := by decide +kernel
theorem dX9_acceptsCover_119 : decode cX9_acceptsCover 119 = .ok (.lstore 7, 2) := by decide +kernel
theorem dX9_acceptsCover_121 : decode cX9_acceptsCover 121 = .ok (.lconst 0, 1) := by decide +kernel
theorem dX9_acceptsCover_122 : decode cX9_acceptsCover 122 = .ok (.lstore 9, 2) := by decide +kernel
theorem dX9_acceptsCover_124 : decode cX9_acceptsCover 124 = .ok (.iconst 0, 1) := by decide +kernel
theorem dX9_acceptsCover_125 : decode cX9_acceptsCover 125 = .ok (.istore 11, 2) := by decide +kernel
theorem dX9_acceptsCover_127 : decode cX9_acceptsCover 127 = .ok (.iload 11, 2) := by decide +kernel
theorem dX9_acceptsCover_129 : decode cX9_acceptsCover 129 = .ok (.aload_n 0, 1) := by decide +kernel
theorem dX9_acceptsCover_130 : decode cX9_acceptsCover 130 = .ok (.getfield 66, 3) := by decide +kernel
theorem dX9_acceptsCover_133 : decode cX9_acceptsCover 133 = .ok (.if_icmp .ge 55, 3) := by decide +kernel
theorem dX9_acceptsCover_136 : decode cX9_acceptsCover 136 = .ok (.iload 6, 2) := by decide +kernel
theorem dX9_acceptsCover_138 : decode cX9_acceptsCover 138 = .ok (.iload 11, 2) := by decide +kernel
theorem dX9_acceptsCover_140 : decode cX9_acceptsCover 140 = .ok (.ishr, 1) := by decide +kernel
theorem dX9_acceptsCover_141 : decode cX9_acceptsCover 141 = .ok (.iconst 1, 1) := by decide +kernel
theorem dX9_acceptsCover_142 : decode cX9_acceptsCover 142 = .ok (.iand, 1) := by decide +kernel
theorem dX9_acceptsCover_143 : decode cX9_acceptsCover 143 = .ok (.iconst 1, 1) := by decide +kernel
theorem dX9_acceptsCover_144 : decode cX9_acceptsCover 144 = .ok (.if_icmp .ne 38, 3) := by decide +kernel
theorem dX9_acceptsCover_147 : decode cX9_acceptsCover 147 = .ok (.lload 7, 2) := by decide +kernel
theorem dX9_acceptsCover_149 : decode cX9_acceptsCover 149 = .ok (.aload_n 0, 1) := by decide +kernel
theorem dX9_acceptsCover_150 : decode cX9_acceptsCover 150 = .ok (.getfield 23, 3) := by decide +kernel
theorem dX9_acceptsCover_153 : decode cX9_acceptsCover 153 = .ok (.bipush 8, 2) := by decide +kernel
theorem dX9_acceptsCover_155 : decode cX9_acceptsCover 155 = .ok (.iload_n 2, 1) := by decide +kernel
theorem dX9_acceptsCover_156 : decode cX9_acceptsCover 156 = .ok (.imul, 1) := by decide +kernel
theorem dX9_acceptsCover_157 : decode cX9_acceptsCover 157 = .ok (.iload 11, 2) := by decide +kernel
theorem dX9_acceptsCover_159 : decode cX9_acceptsCover 159 = .ok (.iadd, 1) := by decide +kernel
theorem dX9_acceptsCover_160 : decode cX9_acceptsCover 160 = .ok (.iaload, 1) := by decide +kernel
theorem dX9_acceptsCover_161 : decode cX9_acceptsCover 161 = .ok (.i2l, 1) := by decide +kernel
theorem dX9_acceptsCover_162 : decode cX9_acceptsCover 162 = .ok (.ladd, 1) := by decide +kernel
theorem dX9_acceptsCover_163 : decode cX9_acceptsCover 163 = .ok (.lstore 7, 2) := by decide +kernel
theorem dX9_acceptsCover_165 : decode cX9_acceptsCover 165 = .ok (.lload 9, 2) := by decide +kernel
theorem dX9_acceptsCover_167 : decode cX9_acceptsCover 167 = .ok (.aload_n 0, 1) := by decide +kernel
theorem dX9_acceptsCover_168 : decode cX9_acceptsCover 168 = .ok (.getfield 26, 3) := by decide +kernel
theorem dX9_acceptsCover_171 : decode cX9_acceptsCover 171 = .ok (.bipush 8, 2) := by decide +kernel
theorem dX9_acceptsCover_173 : decode cX9_acceptsCover 173 = .ok (.iload_n 1, 1) := by decide +kernel
theorem dX9_acceptsCover_174 : decode cX9_acceptsCover 174 = .ok (.imul, 1) := by decide +kernel
theorem dX9_acceptsCover_175 : decode cX9_acceptsCover 175 = .ok (.iload 11, 2) := by decide +kernel
theorem dX9_acceptsCover_177 : decode cX9_acceptsCover 177 = .ok (.iadd, 1) := by decide +kernel
theorem dX9_acceptsCover_178 : decode cX9_acceptsCover 178 = .ok (.laload, 1) := by decide +kernel
theorem dX9_acceptsCover_179 : decode cX9_acceptsCover 179 = .ok (.ladd, 1) := by decide +kernel
theorem dX9_acceptsCover_180 : decode cX9_acceptsCover 180 = .ok (.lstore 9, 2) := by decide +kernel
theorem dX9_acceptsCover_182 : decode cX9_acceptsCover 182 = .ok (.iinc 11 1, 3) := by decide +kernel
theorem dX9_acceptsCover_185 : decode cX9_acceptsCover 185 = .ok (.goto (-58), 3) := by decide +kernel
theorem dX9_acceptsCover_188 : decode cX9_acceptsCover 188 = .ok (.lload 7, 2) := by decide +kernel
theorem dX9_acceptsCover_190 : decode cX9_acceptsCover 190 = .ok (.aload_n 0, 1) := by decide +kernel
theorem dX9_acceptsCover_191 : decode cX9_acceptsCover 191 = .ok (.getfield 20, 3) := by decide +kernel
theorem dX9_acceptsCover_194 : decode cX9_acceptsCover 194 = .ok (.iload_n 2, 1) := by decide +kernel
theorem dX9_acceptsCover_195 : decode cX9_acceptsCover 195 = .ok (.iaload, 1) := by decide +kernel
theorem dX9_acceptsCover_196 : decode cX9_acceptsCover 196 = .ok (.i2l, 1) := by decide +kernel
theorem dX9_acceptsCover_197 : decode cX9_acceptsCover 197 = .ok (.lcmp, 1) := by decide +kernel
theorem dX9_acceptsCover_198 : decode cX9_acceptsCover 198 = .ok (.ifCond .gt 17, 3) := by decide +kernel
theorem dX9_acceptsCover_201 : decode cX9_acceptsCover 201 = .ok (.lload 9, 2) := by decide +kernel
theorem dX9_acceptsCover_203 : decode cX9_acceptsCover 203 = .ok (.aload_n 0, 1) := by decide +kernel
theorem dX9_acceptsCover_204 : decode cX9_acceptsCover 204 = .ok (.getfield 29, 3) := by decide +kernel
theorem dX9_acceptsCover_207 : decode cX9_acceptsCover 207 = .ok (.iload_n 1, 1) := by decide +kernel
theorem dX9_acceptsCover_208 : decode cX9_acceptsCover 208 = .ok (.laload, 1) := by decide +kernel
theorem dX9_acceptsCover_209 : decode cX9_acceptsCover 209 = .ok (.lcmp, 1) := by decide +kernel
theorem dX9_acceptsCover_210 : decode cX9_acceptsCover 210 = .ok (.ifCond .le 5, 3) := by decide +kernel
theorem dX9_acceptsCover_213 : decode cX9_acceptsCover 213 = .ok (.iconst 0, 1) := by decide +kernel
theorem dX9_acceptsCover_214 : decode cX9_acceptsCover 214 = .ok (.ireturn, 1) := by decide +kernel
theorem dX9_acceptsCover_215 : decode cX9_acceptsCover 215 = .ok (.iinc 6 1, 3) := by decide +kernel
theorem dX9_acceptsCover_218 : decode cX9_acceptsCover 218 = .ok (.goto (-121), 3) := by decide +kernel
theorem dX9_acceptsCover_221 : decode cX9_acceptsCover 221 = .ok (.iconst 1, 1) := by decide +kernel
theorem dX9_acceptsCover_222 : decode cX9_acceptsCover 222 = .ok (.ireturn, 1) := by decide +kernel
theorem dX9_acceptsClique_0 : decode cX9_acceptsClique 0 = .ok (.aload_n 0, 1) := by decide +kernel
theorem dX9_acceptsClique_1 : decode cX9_acceptsClique 1 = .ok (.getfield 29, 3) := by decide +kernel
theorem dX9_acceptsClique_4 : decode cX9_acceptsClique 4 = .ok (.iload_n 1, 1) := by decide +kernel
theorem dX9_acceptsClique_5 : decode cX9_acceptsClique 5 = .ok (.laload, 1) := by decide +kernel
theorem dX9_acceptsClique_6 : decode cX9_acceptsClique 6 = .ok (.lconst 1, 1) := by decide +kernel
theorem dX9_acceptsClique_7 : decode cX9_acceptsClique 7 = .ok (.lcmp, 1) := by decide +kernel
theorem dX9_acceptsClique_8 : decode cX9_acceptsClique 8 = .ok (.ifCond .ge 5, 3) := by decide +kernel
theorem dX9_acceptsClique_11 : decode cX9_acceptsClique 11 = .ok (.iconst 0, 1) := by decide +kernel
theorem dX9_acceptsClique_12 : decode cX9_acceptsClique 12 = .ok (.ireturn, 1) := by decide +kernel
theorem dX9_acceptsClique_13 : decode cX9_acceptsClique 13 = .ok (.iconst 0, 1) := by decide +kernel
theorem dX9_acceptsClique_14 : decode cX9_acceptsClique 14 = .ok (.istore_n 2, 1) := by decide +kernel
theorem dX9_acceptsClique_15 : decode cX9_acceptsClique 15 = .ok (.iload_n 2, 1) := by decide +kernel
theorem dX9_acceptsClique_16 : decode cX9_acceptsClique 16 = .ok (.aload_n 0, 1) := by decide +kernel
theorem dX9_acceptsClique_17 : decode cX9_acceptsClique 17 = .ok (.getfield 66, 3) := by decide +kernel
theorem dX9_acceptsClique_20 : decode cX9_acceptsClique 20 = .ok (.if_icmp .ge 93, 3) := by decide +kernel
theorem dX9_acceptsClique_23 : decode cX9_acceptsClique 23 = .ok (.aload_n 0, 1) := by decide +kernel
theorem dX9_acceptsClique_24 : decode cX9_acceptsClique 24 = .ok (.getfield 26, 3) := by decide +kernel
theorem dX9_acceptsClique_27 : decode cX9_acceptsClique 27 = .ok (.bipush 8, 2) := by decide +kernel
theorem dX9_acceptsClique_29 : decode cX9_acceptsClique 29 = .ok (.iload_n 1, 1) := by decide +kernel
theorem dX9_acceptsClique_30 : decode cX9_acceptsClique 30 = .ok (.imul, 1) := by decide +kernel
theorem dX9_acceptsClique_31 : decode cX9_acceptsClique 31 = .ok (.iload_n 2, 1) := by decide +kernel
theorem dX9_acceptsClique_32 : decode cX9_acceptsClique 32 = .ok (.iadd, 1) := by decide +kernel
theorem dX9_acceptsClique_33 : decode cX9_acceptsClique 33 = .ok (.laload, 1) := by decide +kernel
theorem dX9_acceptsClique_34 : decode cX9_acceptsClique 34 = .ok (.lstore_n 3, 1) := by decide +kernel
theorem dX9_acceptsClique_35 : decode cX9_acceptsClique 35 = .ok (.lload_n 3, 1) := by decide +kernel
theorem dX9_acceptsClique_36 : decode cX9_acceptsClique 36 = .ok (.lconst 0, 1) := by decide +kernel
theorem dX9_acceptsClique_37 : decode cX9_acceptsClique 37 = .ok (.lcmp, 1) := by decide +kernel
theorem dX9_acceptsClique_38 : decode cX9_acceptsClique 38 = .ok (.ifCond .eq 19, 3) := by decide +kernel
theorem dX9_acceptsClique_41 : decode cX9_acceptsClique 41 = .ok (.lload_n 3, 1) := by decide +kernel
theorem dX9_acceptsClique_42 : decode cX9_acceptsClique 42 = .ok (.lconst 1, 1) := by decide +kernel
theorem dX9_acceptsClique_43 : decode cX9_acceptsClique 43 = .ok (.lcmp, 1) := by decide +kernel
theorem dX9_acceptsClique_44 : decode cX9_acceptsClique 44 = .ok (.ifCond .ne 11, 3) := by decide +kernel
theorem dX9_acceptsClique_47 : decode cX9_acceptsClique 47 = .ok (.aload_n 0, 1) := by decide +kernel
theorem dX9_acceptsClique_48 : decode cX9_acceptsClique 48 = .ok (.iload_n 2, 1) := by decide +kernel
theorem dX9_acceptsClique_49 : decode cX9_acceptsClique 49 = .ok (.invokevirtual 130, 3) := by decide +kernel
theorem dX9_acceptsClique_52 : decode cX9_acceptsClique 52 = .ok (.ifCond .ne 5, 3) := by decide +kernel
theorem dX9_acceptsClique_55 : decode cX9_acceptsClique 55 = .ok (.iconst 0, 1) := by decide +kernel
theorem dX9_acceptsClique_56 : decode cX9_acceptsClique 56 = .ok (.ireturn, 1) := by decide +kernel
theorem dX9_acceptsClique_57 : decode cX9_acceptsClique 57 = .ok (.iconst 0, 1) := by decide +kernel
theorem dX9_acceptsClique_58 : decode cX9_acceptsClique 58 = .ok (.istore 5, 2) := by decide +kernel
theorem dX9_acceptsClique_60 : decode cX9_acceptsClique 60 = .ok (.iload 5, 2) := by decide +kernel
theorem dX9_acceptsClique_62 : decode cX9_acceptsClique 62 = .ok (.iload_n 2, 1) := by decide +kernel
theorem dX9_acceptsClique_63 : decode cX9_acceptsClique 63 = .ok (.if_icmp .ge 44, 3) := by decide +kernel
theorem dX9_acceptsClique_66 : decode cX9_acceptsClique 66 = .ok (.lload_n 3, 1) := by decide +kernel
theorem dX9_acceptsClique_67 : decode cX9_acceptsClique 67 = .ok (.lconst 1, 1) := by decide +kernel
theorem dX9_acceptsClique_68 : decode cX9_acceptsClique 68 = .ok (.lcmp, 1) := by decide +kernel
theorem dX9_acceptsClique_69 : decode cX9_acceptsClique 69 = .ok (.ifCond .ne 32, 3) := by decide +kernel
theorem dX9_acceptsClique_72 : decode cX9_acceptsClique 72 = .ok (.aload_n 0, 1) := by decide +kernel
theorem dX9_acceptsClique_73 : decode cX9_acceptsClique 73 = .ok (.getfield 26, 3) := by decide +kernel
theorem dX9_acceptsClique_76 : decode cX9_acceptsClique 76 = .ok (.bipush 8, 2) := by decide +kernel
theorem dX9_acceptsClique_78 : decode cX9_acceptsClique 78 = .ok (.iload_n 1, 1) := by decide +kernel
theorem dX9_acceptsClique_79 : decode cX9_acceptsClique 79 = .ok (.imul, 1) := by decide +kernel
theorem dX9_acceptsClique_80 : decode cX9_acceptsClique 80 = .ok (.iload 5, 2) := by decide +kernel
theorem dX9_acceptsClique_82 : decode cX9_acceptsClique 82 = .ok (.iadd, 1) := by decide +kernel
theorem dX9_acceptsClique_83 : decode cX9_acceptsClique 83 = .ok (.laload, 1) := by decide +kernel
theorem dX9_acceptsClique_84 : decode cX9_acceptsClique 84 = .ok (.lconst 1, 1) := by decide +kernel
theorem dX9_acceptsClique_85 : decode cX9_acceptsClique 85 = .ok (.lcmp, 1) := by decide +kernel
theorem dX9_acceptsClique_86 : decode cX9_acceptsClique 86 = .ok (.ifCond .ne 15, 3) := by decide +kernel
theorem dX9_acceptsClique_89 : decode cX9_acceptsClique 89 = .ok (.aload_n 0, 1) := by decide +kernel
theorem dX9_acceptsClique_90 : decode cX9_acceptsClique 90 = .ok (.iload_n 2, 1) := by decide +kernel
theorem dX9_acceptsClique_91 : decode cX9_acceptsClique 91 = .ok (.iload 5, 2) := by decide +kernel
theorem dX9_acceptsClique_93 : decode cX9_acceptsClique 93 = .ok (.invokevirtual 156, 3) := by decide +kernel
theorem dX9_acceptsClique_96 : decode cX9_acceptsClique 96 = .ok (.ifCond .ne 5, 3) := by decide +kernel
theorem dX9_acceptsClique_99 : decode cX9_acceptsClique 99 = .ok (.iconst 0, 1) := by decide +kernel
theorem dX9_acceptsClique_100 : decode cX9_acceptsClique 100 = .ok (.ireturn, 1) := by decide +kernel
theorem dX9_acceptsClique_101 : decode cX9_acceptsClique 101 = .ok (.iinc 5 1, 3) := by decide +kernel
theorem dX9_acceptsClique_104 : decode cX9_acceptsClique 104 = .ok (.goto (-44), 3) := by decide +kernel
theorem dX9_acceptsClique_107 : decode cX9_acceptsClique 107 = .ok (.iinc 2 1, 3) := by decide +kernel
theorem dX9_acceptsClique_110 : decode cX9_acceptsClique 110 = .ok (.goto (-95), 3) := by decide +kernel
theorem dX9_acceptsClique_113 : decode cX9_acceptsClique 113 = .ok (.iconst 1, 1) := by decide +kernel
theorem dX9_acceptsClique_114 : decode cX9_acceptsClique 114 = .ok (.ireturn, 1) := by decide +kernel
theorem dX9_accepts_0 : decode cX9_accepts 0 = .ok (.aload_n 0, 1) := by decide +kernel
theorem dX9_accepts_1 : decode cX9_accepts 1 = .ok (.getfield 32, 3) := by decide +kernel
theorem dX9_accepts_4 : decode cX9_accepts 4 = .ok (.iload_n 1, 1) := by decide +kernel
theorem dX9_accepts_5 : decode cX9_accepts 5 = .ok (.iaload, 1) := by decide +kernel
theorem dX9_accepts_6 : decode cX9_accepts 6 = .ok (.iconst 2, 1) := by decide +kernel
theorem dX9_accepts_7 : decode cX9_accepts 7 = .ok (.if_icmp .ge 11, 3) := by decide +kernel
theorem dX9_accepts_10 : decode cX9_accepts 10 = .ok (.aload_n 0, 1) := by decide +kernel
theorem dX9_accepts_11 : decode cX9_accepts 11 = .ok (.iload_n 1, 1) := by decide +kernel
theorem dX9_accepts_12 : decode cX9_accepts 12 = .ok (.invokevirtual 182, 3) := by decide +kernel
theorem dX9_accepts_15 : decode cX9_accepts 15 = .ok (.goto 26, 3) := by decide +kernel
theorem dX9_accepts_18 : decode cX9_accepts 18 = .ok (.aload_n 0, 1) := by decide +kernel
theorem dX9_accepts_19 : decode cX9_accepts 19 = .ok (.getfield 32, 3) := by decide +kernel
theorem dX9_accepts_22 : decode cX9_accepts 22 = .ok (.iload_n 1, 1) := by decide +kernel
theorem dX9_accepts_23 : decode cX9_accepts 23 = .ok (.iaload, 1) := by decide +kernel
theorem dX9_accepts_24 : decode cX9_accepts 24 = .ok (.iconst 2, 1) := by decide +kernel
theorem dX9_accepts_25 : decode cX9_accepts 25 = .ok (.if_icmp .ne 11, 3) := by decide +kernel
theorem dX9_accepts_28 : decode cX9_accepts 28 = .ok (.aload_n 0, 1) := by decide +kernel
theorem dX9_accepts_29 : decode cX9_accepts 29 = .ok (.iload_n 1, 1) := by decide +kernel
theorem dX9_accepts_30 : decode cX9_accepts 30 = .ok (.invokevirtual 185, 3) := by decide +kernel
theorem dX9_accepts_33 : decode cX9_accepts 33 = .ok (.goto 8, 3) := by decide +kernel
theorem dX9_accepts_36 : decode cX9_accepts 36 = .ok (.aload_n 0, 1) := by decide +kernel
theorem dX9_accepts_37 : decode cX9_accepts 37 = .ok (.iload_n 1, 1) := by decide +kernel
theorem dX9_accepts_38 : decode cX9_accepts 38 = .ok (.invokevirtual 188, 3) := by decide +kernel
theorem dX9_accepts_41 : decode cX9_accepts 41 = .ok (.ireturn, 1) := by decide +kernel
theorem dX9_check_0 : decode cX9_check 0 = .ok (.aload_n 0, 1) := by decide +kernel
theorem dX9_check_1 : decode cX9_check 1 = .ok (.iconst 0, 1) := by decide +kernel
theorem dX9_check_2 : decode cX9_check 2 = .ok (.putfield 63, 3) := by decide +kernel
theorem dX9_check_5 : decode cX9_check 5 = .ok (.aload_n 0, 1) := by decide +kernel
theorem dX9_check_6 : decode cX9_check 6 = .ok (.iload_n 1, 1) := by decide +kernel
theorem dX9_check_7 : decode cX9_check 7 = .ok (.invokevirtual 175, 3) := by decide +kernel
theorem dX9_check_10 : decode cX9_check 10 = .ok (.ifCond .ne 7, 3) := by decide +kernel
theorem dX9_check_13 : decode cX9_check 13 = .ok (.iconst (-1), 1) := by decide +kernel
theorem dX9_check_14 : decode cX9_check 14 = .ok (.goto 16, 3) := by decide +kernel
theorem dX9_check_17 : decode cX9_check 17 = .ok (.aload_n 0, 1) := by decide +kernel
theorem dX9_check_18 : decode cX9_check 18 = .ok (.iload_n 1, 1) := by decide +kernel
theorem dX9_check_19 : decode cX9_check 19 = .ok (.invokevirtual 191, 3) := by decide +kernel
theorem dX9_check_22 : decode cX9_check 22 = .ok (.ifCond .eq 7, 3) := by decide +kernel
theorem dX9_check_25 : decode cX9_check 25 = .ok (.iconst 1, 1) := by decide +kernel
theorem dX9_check_26 : decode cX9_check 26 = .ok (.goto 4, 3) := by decide +kernel
theorem dX9_check_29 : decode cX9_check 29 = .ok (.iconst 0, 1) := by decide +kernel
theorem dX9_check_30 : decode cX9_check 30 = .ok (.ireturn, 1) := by decide +kernel
theorem dX9_over_0 : decode cX9_over 0 = .ok (.aload_n 0, 1) := by decide +kernel
theorem dX9_over_1 : decode cX9_over 1 = .ok (.getfield 29, 3) := by decide +kernel
theorem dX9_over_4 : decode cX9_over 4 = .ok (.iload_n 1, 1) := by decide +kernel
theorem dX9_over_5 : decode cX9_over 5 = .ok (.laload, 1) := by decide +kernel
theorem dX9_over_6 : decode cX9_over 6 = .ok (.lneg, 1) := by decide +kernel
theorem dX9_over_7 : decode cX9_over 7 = .ok (.ldc2_w 82, 3) := by decide +kernel
theorem dX9_over_10 : decode cX9_over 10 = .ok (.lmul, 1) := by decide +kernel
theorem dX9_over_11 : decode cX9_over 11 = .ok (.lstore_n 2, 1) := by decide +kernel
theorem dX9_over_12 : decode cX9_over 12 = .ok (.iconst 0, 1) := by decide +kernel
theorem dX9_over_13 : decode cX9_over 13 = .ok (.istore 4, 2) := by decide +kernel
theorem dX9_over_15 : decode cX9_over 15 = .ok (.iload 4, 2) := by decide +kernel
theorem dX9_over_17 : decode cX9_over 17 = .ok (.aload_n 0, 1) := by decide +kernel
theorem dX9_over_18 : decode cX9_over 18 = .ok (.getfield 66, 3) := by decide +kernel
theorem dX9_over_21 : decode cX9_over 21 = .ok (.if_icmp .ge 32, 3) := by decide +kernel
theorem dX9_over_24 : decode cX9_over 24 = .ok (.lload_n 2, 1) := by decide +kernel
theorem dX9_over_25 : decode cX9_over 25 = .ok (.aload_n 0, 1) := by decide +kernel
theorem dX9_over_26 : decode cX9_over 26 = .ok (.getfield 26, 3) := by decide +kernel
theorem dX9_over_29 : decode cX9_over 29 = .ok (.bipush 8, 2) := by decide +kernel
theorem dX9_over_31 : decode cX9_over 31 = .ok (.iload_n 1, 1) := by decide +kernel
theorem dX9_over_32 : decode cX9_over 32 = .ok (.imul, 1) := by decide +kernel
theorem dX9_over_33 : decode cX9_over 33 = .ok (.iload 4, 2) := by decide +kernel
theorem dX9_over_35 : decode cX9_over 35 = .ok (.iadd, 1) := by decide +kernel
theorem dX9_over_36 : decode cX9_over 36 = .ok (.laload, 1) := by decide +kernel
theorem dX9_over_37 : decode cX9_over 37 = .ok (.aload_n 0, 1) := by decide +kernel
theorem dX9_over_38 : decode cX9_over 38 = .ok (.getfield 16, 3) := by decide +kernel
theorem dX9_over_41 : decode cX9_over 41 = .ok (.iload 4, 2) := by decide +kernel
theorem dX9_over_43 : decode cX9_over 43 = .ok (.laload, 1) := by decide +kernel
theorem dX9_over_44 : decode cX9_over 44 = .ok (.lmul, 1) := by decide +kernel
theorem dX9_over_45 : decode cX9_over 45 = .ok (.ladd, 1) := by decide +kernel
theorem dX9_over_46 : decode cX9_over 46 = .ok (.lstore_n 2, 1) := by decide +kernel
theorem dX9_over_47 : decode cX9_over 47 = .ok (.iinc 4 1, 3) := by decide +kernel
theorem dX9_over_50 : decode cX9_over 50 = .ok (.goto (-35), 3) := by decide +kernel
theorem dX9_over_53 : decode cX9_over 53 = .ok (.lload_n 2, 1) := by decide +kernel
theorem dX9_over_54 : decode cX9_over 54 = .ok (.lreturn, 1) := by decide +kernel
theorem dX9_strength_0 : decode cX9_strength 0 = .ok (.aload_n 0, 1) := by decide +kernel
theorem dX9_strength_1 : decode cX9_strength 1 = .ok (.iconst 0, 1) := by decide +kernel
theorem dX9_strength_2 : decode cX9_strength 2 = .ok (.putfield 63, 3) := by decide +kernel
theorem dX9_strength_5 : decode cX9_strength 5 = .ok (.aload_n 0, 1) := by decide +kernel
theorem dX9_strength_6 : decode cX9_strength 6 = .ok (.iload_n 1, 1) := by decide +kernel
theorem dX9_strength_7 : decode cX9_strength 7 = .ok (.invokevirtual 175, 3) := by decide +kernel
theorem dX9_strength_10 : decode cX9_strength 10 = .ok (.ifCond .ne 10, 3) := by decide +kernel
theorem dX9_strength_13 : decode cX9_strength 13 = .ok (.aload_n 0, 1) := by decide +kernel
theorem dX9_strength_14 : decode cX9_strength 14 = .ok (.iconst 1, 1) := by decide +kernel
theorem dX9_strength_15 : decode cX9_strength 15 = .ok (.putfield 63, 3) := by decide +kernel
theorem dX9_strength_18 : decode cX9_strength 18 = .ok (.lconst 0, 1) := by decide +kernel
theorem dX9_strength_19 : decode cX9_strength 19 = .ok (.lreturn, 1) := by decide +kernel
theorem dX9_strength_20 : decode cX9_strength 20 = .ok (.iload_n 2, 1) := by decide +kernel
theorem dX9_strength_21 : decode cX9_strength 21 = .ok (.ifCond .lt 8, 3) := by decide +kernel
theorem dX9_strength_24 : decode cX9_strength 24 = .ok (.iload_n 2, 1) := by decide +kernel
theorem dX9_strength_25 : decode cX9_strength 25 = .ok (.iconst 1, 1) := by decide +kernel
theorem dX9_strength_26 : decode cX9_strength 26 = .ok (.if_icmp .le 10, 3) := by decide +kernel
theorem dX9_strength_29 : decode cX9_strength 29 = .ok (.aload_n 0, 1) := by decide +kernel
theorem dX9_strength_30 : decode cX9_strength 30 = .ok (.iconst 2, 1) := by decide +kernel
theorem dX9_strength_31 : decode cX9_strength 31 = .ok (.putfield 63, 3) := by decide +kernel
theorem dX9_strength_34 : decode cX9_strength 34 = .ok (.lconst 0, 1) := by decide +kernel
theorem dX9_strength_35 : decode cX9_strength 35 = .ok (.lreturn, 1) := by decide +kernel
theorem dX9_strength_36 : decode cX9_strength 36 = .ok (.aload_n 0, 1) := by decide +kernel
theorem dX9_strength_37 : decode cX9_strength 37 = .ok (.iload_n 1, 1) := by decide +kernel
theorem dX9_strength_38 : decode cX9_strength 38 = .ok (.invokevirtual 194, 3) := by decide +kernel
theorem dX9_strength_41 : decode cX9_strength 41 = .ok (.lstore_n 3, 1) := by decide +kernel
theorem dX9_strength_42 : decode cX9_strength 42 = .ok (.lload_n 3, 1) := by decide +kernel
theorem dX9_strength_43 : decode cX9_strength 43 = .ok (.lconst 0, 1) := by decide +kernel
theorem dX9_strength_44 : decode cX9_strength 44 = .ok (.lcmp, 1) := by decide +kernel
theorem dX9_strength_45 : decode cX9_strength 45 = .ok (.ifCond .ge 8, 3) := by decide +kernel
theorem dX9_strength_48 : decode cX9_strength 48 = .ok (.lload_n 3, 1) := by decide +kernel
theorem dX9_strength_49 : decode cX9_strength 49 = .ok (.lneg, 1) := by decide +kernel
theorem dX9_strength_50 : decode cX9_strength 50 = .ok (.goto 4, 3) := by decide +kernel
theorem dX9_strength_53 : decode cX9_strength 53 = .ok (.lload_n 3, 1) := by decide +kernel
theorem dX9_strength_54 : decode cX9_strength 54 = .ok (.lstore 5, 2) := by decide +kernel
theorem dX9_strength_56 : decode cX9_strength 56 = .ok (.ldc2_w 82, 3) := by decide +kernel
theorem dX9_strength_59 : decode cX9_strength 59 = .ok (.lstore 7, 2) := by decide +kernel
theorem dX9_strength_61 : decode cX9_strength 61 = .ok (.lload 5, 2) := by decide +kernel
theorem dX9_strength_63 : decode cX9_strength 63 = .ok (.lconst 0, 1) := by decide +kernel
theorem dX9_strength_64 : decode cX9_strength 64 = .ok (.lcmp, 1) := by decide +kernel
theorem dX9_strength_65 : decode cX9_strength 65 = .ok (.ifCond .eq 21, 3) := by decide +kernel
theorem dX9_strength_68 : decode cX9_strength 68 = .ok (.lload 7, 2) := by decide +kernel
theorem dX9_strength_70 : decode cX9_strength 70 = .ok (.lload 5, 2) := by decide +kernel
theorem dX9_strength_72 : decode cX9_strength 72 = .ok (.lrem, 1) := by decide +kernel
theorem dX9_strength_73 : decode cX9_strength 73 = .ok (.lstore 9, 2) := by decide +kernel
theorem dX9_strength_75 : decode cX9_strength 75 = .ok (.lload 5, 2) := by decide +kernel
theorem dX9_strength_77 : decode cX9_strength 77 = .ok (.lstore 7, 2) := by decide +kernel
theorem dX9_strength_79 : decode cX9_strength 79 = .ok (.lload 9, 2) := by decide +kernel
theorem dX9_strength_81 : decode cX9_strength 81 = .ok (.lstore 5, 2) := by decide +kernel
theorem dX9_strength_83 : decode cX9_strength 83 = .ok (.goto (-22), 3) := by decide +kernel
theorem dX9_strength_86 : decode cX9_strength 86 = .ok (.iload_n 2, 1) := by decide +kernel
theorem dX9_strength_87 : decode cX9_strength 87 = .ok (.ifCond .ne 10, 3) := by decide +kernel
theorem dX9_strength_90 : decode cX9_strength 90 = .ok (.lload_n 3, 1) := by decide +kernel
theorem dX9_strength_91 : decode cX9_strength 91 = .ok (.lload 7, 2) := by decide +kernel
theorem dX9_strength_93 : decode cX9_strength 93 = .ok (.ldiv, 1) := by decide +kernel
theorem dX9_strength_94 : decode cX9_strength 94 = .ok (.goto 9, 3) := by decide +kernel
theorem dX9_strength_97 : decode cX9_strength 97 = .ok (.ldc2_w 82, 3) := by decide +kernel
theorem dX9_strength_100 : decode cX9_strength 100 = .ok (.lload 7, 2) := by decide +kernel
theorem dX9_strength_102 : decode cX9_strength 102 = .ok (.ldiv, 1) := by decide +kernel
theorem dX9_strength_103 : decode cX9_strength 103 = .ok (.lreturn, 1) := by decide +kernel
theorem dX9_best_0 : decode cX9_best 0 = .ok (.aload_n 0, 1) := by decide +kernel
theorem dX9_best_1 : decode cX9_best 1 = .ok (.iconst 0, 1) := by decide +kernel
theorem dX9_best_2 : decode cX9_best 2 = .ok (.putfield 63, 3) := by decide +kernel
theorem dX9_best_5 : decode cX9_best 5 = .ok (.iconst (-1), 1) := by decide +kernel
theorem dX9_best_6 : decode cX9_best 6 = .ok (.istore_n 1, 1) := by decide +kernel
theorem dX9_best_7 : decode cX9_best 7 = .ok (.iconst 0, 1) := by decide +kernel
theorem dX9_best_8 : decode cX9_best 8 = .ok (.istore_n 2, 1) := by decide +kernel
theorem dX9_best_9 : decode cX9_best 9 = .ok (.iload_n 2, 1) := by decide +kernel
theorem dX9_best_10 : decode cX9_best 10 = .ok (.aload_n 0, 1) := by decide +kernel
theorem dX9_best_11 : decode cX9_best 11 = .ok (.getfield 69, 3) := by decide +kernel
theorem dX9_best_14 : decode cX9_best 14 = .ok (.if_icmp .ge 34, 3) := by decide +kernel
theorem dX9_best_17 : decode cX9_best 17 = .ok (.iload_n 1, 1) := by decide +kernel
theorem dX9_best_18 : decode cX9_best 18 = .ok (.iconst (-1), 1) := by decide +kernel
theorem dX9_best_19 : decode cX9_best 19 = .ok (.if_icmp .eq 17, 3) := by decide +kernel
theorem dX9_best_22 : decode cX9_best 22 = .ok (.aload_n 0, 1) := by decide +kernel
theorem dX9_best_23 : decode cX9_best 23 = .ok (.iload_n 2, 1) := by decide +kernel
theorem dX9_best_24 : decode cX9_best 24 = .ok (.invokevirtual 194, 3) := by decide +kernel
theorem dX9_best_27 : decode cX9_best 27 = .ok (.aload_n 0, 1) := by decide +kernel
theorem dX9_best_28 : decode cX9_best 28 = .ok (.iload_n 1, 1) := by decide +kernel
theorem dX9_best_29 : decode cX9_best 29 = .ok (.invokevirtual 194, 3) := by decide +kernel
theorem dX9_best_32 : decode cX9_best 32 = .ok (.lcmp, 1) := by decide +kernel
theorem dX9_best_33 : decode cX9_best 33 = .ok (.ifCond .le 7, 3) := by decide +kernel
theorem dX9_best_36 : decode cX9_best 36 = .ok (.iload_n 2, 1) := by decide +kernel
theorem dX9_best_37 : decode cX9_best 37 = .ok (.goto 4, 3) := by decide +kernel
theorem dX9_best_40 : decode cX9_best 40 = .ok (.iload_n 1, 1) := by decide +kernel
theorem dX9_best_41 : decode cX9_best 41 = .ok (.istore_n 1, 1) := by decide +kernel
theorem dX9_best_42 : decode cX9_best 42 = .ok (.iinc 2 1, 3) := by decide +kernel
theorem dX9_best_45 : decode cX9_best 45 = .ok (.goto (-36), 3) := by decide +kernel
theorem dX9_best_48 : decode cX9_best 48 = .ok (.iload_n 1, 1) := by decide +kernel
theorem dX9_best_49 : decode cX9_best 49 = .ok (.ireturn, 1) := by decide +kernel
theorem dX9_tooMany_0 : decode cX9_tooMany 0 = .ok (.lconst 1, 1) := by decide +kernel
theorem dX9_tooMany_1 : decode cX9_tooMany 1 = .ok (.lstore_n 1, 1) := by decide +kernel
theorem dX9_tooMany_2 : decode cX9_tooMany 2 = .ok (.iconst 0, 1) := by decide +kernel
theorem dX9_tooMany_3 : decode cX9_tooMany 3 = .ok (.istore_n 3, 1) := by decide +kernel
theorem dX9_tooMany_4 : decode cX9_tooMany 4 = .ok (.iload_n 3, 1) := by decide +kernel
theorem dX9_tooMany_5 : decode cX9_tooMany 5 = .ok (.aload_n 0, 1) := by decide +kernel
theorem dX9_tooMany_6 : decode cX9_tooMany 6 = .ok (.getfield 66, 3) := by decide +kernel
theorem dX9_tooMany_9 : decode cX9_tooMany 9 = .ok (.if_icmp .ge 28, 3) := by decide +kernel
theorem dX9_tooMany_12 : decode cX9_tooMany 12 = .ok (.lload_n 1, 1) := by decide +kernel
theorem dX9_tooMany_13 : decode cX9_tooMany 13 = .ok (.aload_n 0, 1) := by decide +kernel
theorem dX9_tooMany_14 : decode cX9_tooMany 14 = .ok (.getfield 13, 3) := by decide +kernel
theorem dX9_tooMany_17 : decode cX9_tooMany 17 = .ok (.iload_n 3, 1) := by decide +kernel
theorem dX9_tooMany_18 : decode cX9_tooMany 18 = .ok (.iaload, 1) := by decide +kernel
theorem dX9_tooMany_19 : decode cX9_tooMany 19 = .ok (.aload_n 0, 1) := by decide +kernel
theorem dX9_tooMany_20 : decode cX9_tooMany 20 = .ok (.getfield 7, 3) := by decide +kernel
theorem dX9_tooMany_23 : decode cX9_tooMany 23 = .ok (.iload_n 3, 1) := by decide +kernel
theorem dX9_tooMany_24 : decode cX9_tooMany 24 = .ok (.iaload, 1) := by decide +kernel
theorem dX9_tooMany_25 : decode cX9_tooMany 25 = .ok (.isub, 1) := by decide +kernel
theorem dX9_tooMany_26 : decode cX9_tooMany 26 = .ok (.iconst 1, 1) := by decide +kernel
theorem dX9_tooMany_27 : decode cX9_tooMany 27 = .ok (.iadd, 1) := by decide +kernel
theorem dX9_tooMany_28 : decode cX9_tooMany 28 = .ok (.i2l, 1) := by decide +kernel
theorem dX9_tooMany_29 : decode cX9_tooMany 29 = .ok (.lmul, 1) := by decide +kernel
theorem dX9_tooMany_30 : decode cX9_tooMany 30 = .ok (.lstore_n 1, 1) := by decide +kernel
theorem dX9_tooMany_31 : decode cX9_tooMany 31 = .ok (.iinc 3 1, 3) := by decide +kernel
theorem dX9_tooMany_34 : decode cX9_tooMany 34 = .ok (.goto (-30), 3) := by decide +kernel
theorem dX9_tooMany_37 : decode cX9_tooMany 37 = .ok (.lload_n 1, 1) := by decide +kernel
theorem dX9_tooMany_38 : decode cX9_tooMany 38 = .ok (.ldc2_w 198, 3) := by decide +kernel
theorem dX9_tooMany_41 : decode cX9_tooMany 41 = .ok (.lcmp, 1) := by decide +kernel
theorem dX9_tooMany_42 : decode cX9_tooMany 42 = .ok (.ifCond .le 7, 3) := by decide +kernel
theorem dX9_tooMany_45 : decode cX9_tooMany 45 = .ok (.iconst 1, 1) := by decide +kernel
theorem dX9_tooMany_46 : decode cX9_tooMany 46 = .ok (.goto 4, 3) := by decide +kernel
theorem dX9_tooMany_49 : decode cX9_tooMany 49 = .ok (.iconst 0, 1) := by decide +kernel
theorem dX9_tooMany_50 : decode cX9_tooMany 50 = .ok (.ireturn, 1) := by decide +kernel
theorem dX9_goesOn_0 : decode cX9_goesOn 0 = .ok (.iconst 0, 1) := by decide +kernel
theorem dX9_goesOn_1 : decode cX9_goesOn 1 = .ok (.istore_n 1, 1) := by decide +kernel
theorem dX9_goesOn_2 : decode cX9_goesOn 2 = .ok (.iload_n 1, 1) := by decide +kernel
theorem dX9_goesOn_3 : decode cX9_goesOn 3 = .ok (.aload_n 0, 1) := by decide +kernel
theorem dX9_goesOn_4 : decode cX9_goesOn 4 = .ok (.getfield 66, 3) := by decide +kernel
theorem dX9_goesOn_7 : decode cX9_goesOn 7 = .ok (.if_icmp .ge 36, 3) := by decide +kernel
theorem dX9_goesOn_10 : decode cX9_goesOn 10 = .ok (.aload_n 0, 1) := by decide +kernel
theorem dX9_goesOn_11 : decode cX9_goesOn 11 = .ok (.getfield 60, 3) := by decide +kernel
theorem dX9_goesOn_14 : decode cX9_goesOn 14 = .ok (.iload_n 1, 1) := by decide +kernel
theorem dX9_goesOn_15 : decode cX9_goesOn 15 = .ok (.iaload, 1) := by decide +kernel
theorem dX9_goesOn_16 : decode cX9_goesOn 16 = .ok (.aload_n 0, 1) := by decide +kernel
theorem dX9_goesOn_17 : decode cX9_goesOn 17 = .ok (.getfield 13, 3) := by decide +kernel
theorem dX9_goesOn_20 : decode cX9_goesOn 20 = .ok (.iload_n 1, 1) := by decide +kernel
theorem dX9_goesOn_21 : decode cX9_goesOn 21 = .ok (.iaload, 1) := by decide +kernel
theorem dX9_goesOn_22 : decode cX9_goesOn 22 = .ok (.if_icmp .ne 21, 3) := by decide +kernel
theorem dX9_goesOn_25 : decode cX9_goesOn 25 = .ok (.aload_n 0, 1) := by decide +kernel
theorem dX9_goesOn_26 : decode cX9_goesOn 26 = .ok (.getfield 60, 3) := by decide +kernel
theorem dX9_goesOn_29 : decode cX9_goesOn 29 = .ok (.iload_n 1, 1) := by decide +kernel
theorem dX9_goesOn_30 : decode cX9_goesOn 30 = .ok (.aload_n 0, 1) := by decide +kernel
theorem dX9_goesOn_31 : decode cX9_goesOn 31 = .ok (.getfield 7, 3) := by decide +kernel
theorem dX9_goesOn_34 : decode cX9_goesOn 34 = .ok (.iload_n 1, 1) := by decide +kernel
theorem dX9_goesOn_35 : decode cX9_goesOn 35 = .ok (.iaload, 1) := by decide +kernel
theorem dX9_goesOn_36 : decode cX9_goesOn 36 = .ok (.iastore, 1) := by decide +kernel
theorem dX9_goesOn_37 : decode cX9_goesOn 37 = .ok (.iinc 1 1, 3) := by decide +kernel
theorem dX9_goesOn_40 : decode cX9_goesOn 40 = .ok (.goto (-38), 3) := by decide +kernel
theorem dX9_goesOn_43 : decode cX9_goesOn 43 = .ok (.iload_n 1, 1) := by decide +kernel
theorem dX9_goesOn_44 : decode cX9_goesOn 44 = .ok (.aload_n 0, 1) := by decide +kernel
theorem dX9_goesOn_45 : decode cX9_goesOn 45 = .ok (.getfield 66, 3) := by decide +kernel
theorem dX9_goesOn_48 : decode cX9_goesOn 48 = .ok (.if_icmp .ne 5, 3) := by decide +kernel
theorem dX9_goesOn_51 : decode cX9_goesOn 51 = .ok (.iconst 0, 1) := by decide +kernel
theorem dX9_goesOn_52 : decode cX9_goesOn 52 = .ok (.ireturn, 1) := by decide +kernel
theorem dX9_goesOn_53 : decode cX9_goesOn 53 = .ok (.aload_n 0, 1) := by decide +kernel
theorem dX9_goesOn_54 : decode cX9_goesOn 54 = .ok (.getfield 60, 3) := by decide +kernel
theorem dX9_goesOn_57 : decode cX9_goesOn 57 = .ok (.iload_n 1, 1) := by decide +kernel
theorem dX9_goesOn_58 : decode cX9_goesOn 58 = .ok (.dup2, 1) := by decide +kernel
theorem dX9_goesOn_59 : decode cX9_goesOn 59 = .ok (.iaload, 1) := by decide +kernel
theorem dX9_goesOn_60 : decode cX9_goesOn 60 = .ok (.iconst 1, 1) := by decide +kernel
theorem dX9_goesOn_61 : decode cX9_goesOn 61 = .ok (.iadd, 1) := by decide +kernel
theorem dX9_goesOn_62 : decode cX9_goesOn 62 = .ok (.iastore, 1) := by decide +kernel
theorem dX9_goesOn_63 : decode cX9_goesOn 63 = .ok (.iconst 1, 1) := by decide +kernel
theorem dX9_goesOn_64 : decode cX9_goesOn 64 = .ok (.ireturn, 1) := by decide +kernel
theorem dX9_isPlan_0 : decode cX9_isPlan 0 = .ok (.iconst 0, 1) := by decide +kernel
theorem dX9_isPlan_1 : decode cX9_isPlan 1 = .ok (.istore_n 1, 1) := by decide +kernel
theorem dX9_isPlan_2 : decode cX9_isPlan 2 = .ok (.iload_n 1, 1) := by decide +kernel
theorem dX9_isPlan_3 : decode cX9_isPlan 3 = .ok (.aload_n 0, 1) := by decide +kernel
theorem dX9_isPlan_4 : decode cX9_isPlan 4 = .ok (.getfield 72, 3) := by decide +kernel
theorem dX9_isPlan_7 : decode cX9_isPlan 7 = .ok (.if_icmp .ge 60, 3) := by decide +kernel
theorem dX9_isPlan_10 : decode cX9_isPlan 10 = .ok (.iconst 0, 1) := by decide +kernel
theorem dX9_isPlan_11 : decode cX9_isPlan 11 = .ok (.istore_n 2, 1) := by decide +kernel
theorem dX9_isPlan_12 : decode cX9_isPlan 12 = .ok (.iconst 0, 1) := by decide +kernel
theorem dX9_isPlan_13 : decode cX9_isPlan 13 = .ok (.istore_n 3, 1) := by decide +kernel
theorem dX9_isPlan_14 : decode cX9_isPlan 14 = .ok (.iload_n 3, 1) := by decide +kernel
theorem dX9_isPlan_15 : decode cX9_isPlan 15 = .ok (.aload_n 0, 1) := by decide +kernel
theorem dX9_isPlan_16 : decode cX9_isPlan 16 = .ok (.getfield 66, 3) := by decide +kernel
theorem dX9_isPlan_19 : decode cX9_isPlan 19 = .ok (.if_icmp .ge 30, 3) := by decide +kernel
theorem dX9_isPlan_22 : decode cX9_isPlan 22 = .ok (.iload_n 2, 1) := by decide +kernel
theorem dX9_isPlan_23 : decode cX9_isPlan 23 = .ok (.aload_n 0, 1) := by decide +kernel
theorem dX9_isPlan_24 : decode cX9_isPlan 24 = .ok (.getfield 23, 3) := by decide +kernel
theorem dX9_isPlan_27 : decode cX9_isPlan 27 = .ok (.bipush 8, 2) := by decide +kernel
theorem dX9_isPlan_29 : decode cX9_isPlan 29 = .ok (.iload_n 1, 1) := by decide +kernel
theorem dX9_isPlan_30 : decode cX9_isPlan 30 = .ok (.imul, 1) := by decide +kernel
theorem dX9_isPlan_31 : decode cX9_isPlan 31 = .ok (.iload_n 3, 1) := by decide +kernel
theorem dX9_isPlan_32 : decode cX9_isPlan 32 = .ok (.iadd, 1) := by decide +kernel
theorem dX9_isPlan_33 : decode cX9_isPlan 33 = .ok (.iaload, 1) := by decide +kernel
theorem dX9_isPlan_34 : decode cX9_isPlan 34 = .ok (.aload_n 0, 1) := by decide +kernel
theorem dX9_isPlan_35 : decode cX9_isPlan 35 = .ok (.getfield 60, 3) := by decide +kernel
theorem dX9_isPlan_38 : decode cX9_isPlan 38 = .ok (.iload_n 3, 1) := by decide +kernel
theorem dX9_isPlan_39 : decode cX9_isPlan 39 = .ok (.iaload, 1) := by decide +kernel
theorem dX9_isPlan_40 : decode cX9_isPlan 40 = .ok (.imul, 1) := by decide +kernel
theorem dX9_isPlan_41 : decode cX9_isPlan 41 = .ok (.iadd, 1) := by decide +kernel
theorem dX9_isPlan_42 : decode cX9_isPlan 42 = .ok (.istore_n 2, 1) := by decide +kernel
theorem dX9_isPlan_43 : decode cX9_isPlan 43 = .ok (.iinc 3 1, 3) := by decide +kernel
theorem dX9_isPlan_46 : decode cX9_isPlan 46 = .ok (.goto (-32), 3) := by decide +kernel
theorem dX9_isPlan_49 : decode cX9_isPlan 49 = .ok (.iload_n 2, 1) := by decide +kernel
theorem dX9_isPlan_50 : decode cX9_isPlan 50 = .ok (.aload_n 0, 1) := by decide +kernel
theorem dX9_isPlan_51 : decode cX9_isPlan 51 = .ok (.getfield 20, 3) := by decide +kernel
theorem dX9_isPlan_54 : decode cX9_isPlan 54 = .ok (.iload_n 1, 1) := by decide +kernel
theorem dX9_isPlan_55 : decode cX9_isPlan 55 = .ok (.iaload, 1) := by decide +kernel
theorem dX9_isPlan_56 : decode cX9_isPlan 56 = .ok (.if_icmp .le 5, 3) := by decide +kernel
theorem dX9_isPlan_59 : decode cX9_isPlan 59 = .ok (.iconst 0, 1) := by decide +kernel
theorem dX9_isPlan_60 : decode cX9_isPlan 60 = .ok (.ireturn, 1) := by decide +kernel
theorem dX9_isPlan_61 : decode cX9_isPlan 61 = .ok (.iinc 1 1, 3) := by decide +kernel
theorem dX9_isPlan_64 : decode cX9_isPlan 64 = .ok (.goto (-62), 3) := by decide +kernel
theorem dX9_isPlan_67 : decode cX9_isPlan 67 = .ok (.iconst 1, 1) := by decide +kernel
theorem dX9_isPlan_68 : decode cX9_isPlan 68 = .ok (.ireturn, 1) := by decide +kernel
theorem dX9_count_0 : decode cX9_count 0 = .ok (.iconst 0, 1) := by decide +kernel
theorem dX9_count_1 : decode cX9_count 1 = .ok (.istore_n 2, 1) := by decide +kernel
theorem dX9_count_2 : decode cX9_count 2 = .ok (.iload_n 2, 1) := by decide +kernel
theorem dX9_count_3 : decode cX9_count 3 = .ok (.aload_n 0, 1) := by decide +kernel
theorem dX9_count_4 : decode cX9_count 4 = .ok (.getfield 66, 3) := by decide +kernel
theorem dX9_count_7 : decode cX9_count 7 = .ok (.if_icmp .ge 21, 3) := by decide +kernel
theorem dX9_count_10 : decode cX9_count 10 = .ok (.aload_n 0, 1) := by decide +kernel
theorem dX9_count_11 : decode cX9_count 11 = .ok (.getfield 60, 3) := by decide +kernel
theorem dX9_count_14 : decode cX9_count 14 = .ok (.iload_n 2, 1) := by decide +kernel
theorem dX9_count_15 : decode cX9_count 15 = .ok (.aload_n 0, 1) := by decide +kernel
theorem dX9_count_16 : decode cX9_count 16 = .ok (.getfield 7, 3) := by decide +kernel
theorem dX9_count_19 : decode cX9_count 19 = .ok (.iload_n 2, 1) := by decide +kernel
theorem dX9_count_20 : decode cX9_count 20 = .ok (.iaload, 1) := by decide +kernel
theorem dX9_count_21 : decode cX9_count 21 = .ok (.iastore, 1) := by decide +kernel
theorem dX9_count_22 : decode cX9_count 22 = .ok (.iinc 2 1, 3) := by decide +kernel
theorem dX9_count_25 : decode cX9_count 25 = .ok (.goto (-23), 3) := by decide +kernel
theorem dX9_count_28 : decode cX9_count 28 = .ok (.iconst 0, 1) := by decide +kernel
theorem dX9_count_29 : decode cX9_count 29 = .ok (.istore_n 2, 1) := by decide +kernel
theorem dX9_count_30 : decode cX9_count 30 = .ok (.iconst 1, 1) := by decide +kernel
theorem dX9_count_31 : decode cX9_count 31 = .ok (.istore_n 3, 1) := by decide +kernel
theorem dX9_count_32 : decode cX9_count 32 = .ok (.iload_n 3, 1) := by decide +kernel
theorem dX9_count_33 : decode cX9_count 33 = .ok (.ifCond .eq 93, 3) := by decide +kernel
theorem dX9_count_36 : decode cX9_count 36 = .ok (.aload_n 0, 1) := by decide +kernel
theorem dX9_count_37 : decode cX9_count 37 = .ok (.invokevirtual 200, 3) := by decide +kernel
theorem dX9_count_40 : decode cX9_count 40 = .ok (.ifCond .eq 78, 3) := by decide +kernel
theorem dX9_count_43 : decode cX9_count 43 = .ok (.lconst 0, 1) := by decide +kernel
theorem dX9_count_44 : decode cX9_count 44 = .ok (.lstore 4, 2) := by decide +kernel
theorem dX9_count_46 : decode cX9_count 46 = .ok (.iconst 0, 1) := by decide +kernel
theorem dX9_count_47 : decode cX9_count 47 = .ok (.istore 6, 2) := by decide +kernel
theorem dX9_count_49 : decode cX9_count 49 = .ok (.iload 6, 2) := by decide +kernel
theorem dX9_count_51 : decode cX9_count 51 = .ok (.aload_n 0, 1) := by decide +kernel
theorem dX9_count_52 : decode cX9_count 52 = .ok (.getfield 66, 3) := by decide +kernel
theorem dX9_count_55 : decode cX9_count 55 = .ok (.if_icmp .ge 39, 3) := by decide +kernel
theorem dX9_count_58 : decode cX9_count 58 = .ok (.iload_n 1, 1) := by decide +kernel
theorem dX9_count_59 : decode cX9_count 59 = .ok (.ifCond .lt 35, 3) := by decide +kernel
theorem dX9_count_62 : decode cX9_count 62 = .ok (.lload 4, 2) := by decide +kernel
theorem dX9_count_64 : decode cX9_count 64 = .ok (.aload_n 0, 1) := by decide +kernel
theorem dX9_count_65 : decode cX9_count 65 = .ok (.getfield 26, 3) := by decide +kernel
theorem dX9_count_68 : decode cX9_count 68 = .ok (.bipush 8, 2) := by decide +kernel
theorem dX9_count_70 : decode cX9_count 70 = .ok (.iload_n 1, 1) := by decide +kernel
theorem dX9_count_71 : decode cX9_count 71 = .ok (.imul, 1) := by decide +kernel
theorem dX9_count_72 : decode cX9_count 72 = .ok (.iload 6, 2) := by decide +kernel
theorem dX9_count_74 : decode cX9_count 74 = .ok (.iadd, 1) := by decide +kernel
theorem dX9_count_75 : decode cX9_count 75 = .ok (.laload, 1) := by decide +kernel
theorem dX9_count_76 : decode cX9_count 76 = .ok (.aload_n 0, 1) := by decide +kernel
theorem dX9_count_77 : decode cX9_count 77 = .ok (.getfield 60, 3) := by decide +kernel
theorem dX9_count_80 : decode cX9_count 80 = .ok (.iload 6, 2) := by decide +kernel
theorem dX9_count_82 : decode cX9_count 82 = .ok (.iaload, 1) := by decide +kernel
theorem dX9_count_83 : decode cX9_count 83 = .ok (.i2l, 1) := by decide +kernel
theorem dX9_count_84 : decode cX9_count 84 = .ok (.lmul, 1) := by decide +kernel
theorem dX9_count_85 : decode cX9_count 85 = .ok (.ladd, 1) := by decide +kernel
theorem dX9_count_86 : decode cX9_count 86 = .ok (.lstore 4, 2) := by decide +kernel
theorem dX9_count_88 : decode cX9_count 88 = .ok (.iinc 6 1, 3) := by decide +kernel
theorem dX9_count_91 : decode cX9_count 91 = .ok (.goto (-42), 3) := by decide +kernel
theorem dX9_count_94 : decode cX9_count 94 = .ok (.iload_n 2, 1) := by decide +kernel
theorem dX9_count_95 : decode cX9_count 95 = .ok (.iload_n 1, 1) := by decide +kernel
theorem dX9_count_96 : decode cX9_count 96 = .ok (.ifCond .lt 15, 3) := by decide +kernel
theorem dX9_count_99 : decode cX9_count 99 = .ok (.lload 4, 2) := by decide +kernel
theorem dX9_count_101 : decode cX9_count 101 = .ok (.aload_n 0, 1) := by decide +kernel
theorem dX9_count_102 : decode cX9_count 102 = .ok (.getfield 29, 3) := by decide +kernel
theorem dX9_count_105 : decode cX9_count 105 = .ok (.iload_n 1, 1) := by decide +kernel
theorem dX9_count_106 : decode cX9_count 106 = .ok (.laload, 1) := by decide +kernel
theorem dX9_count_107 : decode cX9_count 107 = .ok (.lcmp, 1) := by decide +kernel
theorem dX9_count_108 : decode cX9_count 108 = .ok (.ifCond .le 7, 3) := by decide +kernel
theorem dX9_count_111 : decode cX9_count 111 = .ok (.iconst 1, 1) := by decide +kernel
theorem dX9_count_112 : decode cX9_count 112 = .ok (.goto 4, 3) := by decide +kernel
theorem dX9_count_115 : decode cX9_count 115 = .ok (.iconst 0, 1) := by decide +kernel
theorem dX9_count_116 : decode cX9_count 116 = .ok (.iadd, 1) := by decide +kernel
theorem dX9_count_117 : decode cX9_count 117 = .ok (.istore_n 2, 1) := by decide +kernel
theorem dX9_count_118 : decode cX9_count 118 = .ok (.aload_n 0, 1) := by decide +kernel
theorem dX9_count_119 : decode cX9_count 119 = .ok (.invokevirtual 203, 3) := by decide +kernel
theorem dX9_count_122 : decode cX9_count 122 = .ok (.istore_n 3, 1) := by decide +kernel
theorem dX9_count_123 : decode cX9_count 123 = .ok (.goto (-91), 3) := by decide +kernel
theorem dX9_count_126 : decode cX9_count 126 = .ok (.iload_n 2, 1) := by decide +kernel
theorem dX9_count_127 : decode cX9_count 127 = .ok (.ireturn, 1) := by decide +kernel
theorem dX9_holds_0 : decode cX9_holds 0 = .ok (.aload_n 0, 1) := by decide +kernel
theorem dX9_holds_1 : decode cX9_holds 1 = .ok (.iconst 0, 1) := by decide +kernel
theorem dX9_holds_2 : decode cX9_holds 2 = .ok (.putfield 63, 3) := by decide +kernel
theorem dX9_holds_5 : decode cX9_holds 5 = .ok (.aload_n 0, 1) := by decide +kernel
theorem dX9_holds_6 : decode cX9_holds 6 = .ok (.iload_n 1, 1) := by decide +kernel
theorem dX9_holds_7 : decode cX9_holds 7 = .ok (.invokevirtual 175, 3) := by decide +kernel
theorem dX9_holds_10 : decode cX9_holds 10 = .ok (.ifCond .ne 5, 3) := by decide +kernel
theorem dX9_holds_13 : decode cX9_holds 13 = .ok (.iconst (-1), 1) := by decide +kernel
theorem dX9_holds_14 : decode cX9_holds 14 = .ok (.ireturn, 1) := by decide +kernel
theorem dX9_holds_15 : decode cX9_holds 15 = .ok (.aload_n 0, 1) := by decide +kernel
theorem dX9_holds_16 : decode cX9_holds 16 = .ok (.invokevirtual 206, 3) := by decide +kernel
theorem dX9_holds_19 : decode cX9_holds 19 = .ok (.ifCond .eq 6, 3) := by decide +kernel
theorem dX9_holds_22 : decode cX9_holds 22 = .ok (.bipush (-4), 2) := by decide +kernel
theorem dX9_holds_24 : decode cX9_holds 24 = .ok (.ireturn, 1) := by decide +kernel
theorem dX9_holds_25 : decode cX9_holds 25 = .ok (.aload_n 0, 1) := by decide +kernel
theorem dX9_holds_26 : decode cX9_holds 26 = .ok (.iload_n 1, 1) := by decide +kernel
theorem dX9_holds_27 : decode cX9_holds 27 = .ok (.invokevirtual 209, 3) := by decide +kernel
theorem dX9_holds_30 : decode cX9_holds 30 = .ok (.ifCond .ne 7, 3) := by decide +kernel
theorem dX9_holds_33 : decode cX9_holds 33 = .ok (.iconst 1, 1) := by decide +kernel
theorem dX9_holds_34 : decode cX9_holds 34 = .ok (.goto 4, 3) := by decide +kernel
theorem dX9_holds_37 : decode cX9_holds 37 = .ok (.iconst 0, 1) := by decide +kernel
theorem dX9_holds_38 : decode cX9_holds 38 = .ok (.ireturn, 1) := by decide +kernel
theorem dX9_plans_0 : decode cX9_plans 0 = .ok (.aload_n 0, 1) := by decide +kernel
theorem dX9_plans_1 : decode cX9_plans 1 = .ok (.iconst 0, 1) := by decide +kernel
theorem dX9_plans_2 : decode cX9_plans 2 = .ok (.putfield 63, 3) := by decide +kernel
theorem dX9_plans_5 : decode cX9_plans 5 = .ok (.aload_n 0, 1) := by decide +kernel
theorem dX9_plans_6 : decode cX9_plans 6 = .ok (.invokevirtual 206, 3) := by decide +kernel
theorem dX9_plans_9 : decode cX9_plans 9 = .ok (.ifCond .eq 8, 3) := by decide +kernel
theorem dX9_plans_12 : decode cX9_plans 12 = .ok (.bipush (-4), 2) := by decide +kernel
theorem dX9_plans_14 : decode cX9_plans 14 = .ok (.goto 8, 3) := by decide +kernel
theorem dX9_plans_17 : decode cX9_plans 17 = .ok (.aload_n 0, 1) := by decide +kernel
theorem dX9_plans_18 : decode cX9_plans 18 = .ok (.iconst (-1), 1) := by decide +kernel
theorem dX9_plans_19 : decode cX9_plans 19 = .ok (.invokevirtual 209, 3) := by decide +kernel
theorem dX9_plans_22 : decode cX9_plans 22 = .ok (.ireturn, 1) := by decide +kernel
theorem dX9_turn_0 : decode cX9_turn 0 = .ok (.aload_n 0, 1) := by decide +kernel
theorem dX9_turn_1 : decode cX9_turn 1 = .ok (.iconst 0, 1) := by decide +kernel
theorem dX9_turn_2 : decode cX9_turn 2 = .ok (.putfield 63, 3) := by decide +kernel
theorem dX9_turn_5 : decode cX9_turn 5 = .ok (.iconst 0, 1) := by decide +kernel
theorem dX9_turn_6 : decode cX9_turn 6 = .ok (.istore_n 1, 1) := by decide +kernel
theorem dX9_turn_7 : decode cX9_turn 7 = .ok (.aload_n 0, 1) := by decide +kernel
theorem dX9_turn_8 : decode cX9_turn 8 = .ok (.getfield 69, 3) := by decide +kernel
theorem dX9_turn_11 : decode cX9_turn 11 = .ok (.istore_n 2, 1) := by decide +kernel
theorem dX9_turn_12 : decode cX9_turn 12 = .ok (.iconst 0, 1) := by decide +kernel
theorem dX9_turn_13 : decode cX9_turn 13 = .ok (.istore_n 3, 1) := by decide +kernel
theorem dX9_turn_14 : decode cX9_turn 14 = .ok (.iload_n 3, 1) := by decide +kernel
theorem dX9_turn_15 : decode cX9_turn 15 = .ok (.iload_n 2, 1) := by decide +kernel
theorem dX9_turn_16 : decode cX9_turn 16 = .ok (.if_icmp .ge 154, 3) := by decide +kernel
theorem dX9_turn_19 : decode cX9_turn 19 = .ok (.aload_n 0, 1) := by decide +kernel
theorem dX9_turn_20 : decode cX9_turn 20 = .ok (.iload_n 3, 1) := by decide +kernel
theorem dX9_turn_21 : decode cX9_turn 21 = .ok (.invokevirtual 194, 3) := by decide +kernel
theorem dX9_turn_24 : decode cX9_turn 24 = .ok (.lconst 0, 1) := by decide +kernel
theorem dX9_turn_25 : decode cX9_turn 25 = .ok (.lcmp, 1) := by decide +kernel
theorem dX9_turn_26 : decode cX9_turn 26 = .ok (.ifCond .ge 14, 3) := by decide +kernel
theorem dX9_turn_29 : decode cX9_turn 29 = .ok (.aload_n 0, 1) := by decide +kernel
theorem dX9_turn_30 : decode cX9_turn 30 = .ok (.getfield 35, 3) := by decide +kernel
theorem dX9_turn_33 : decode cX9_turn 33 = .ok (.iload_n 3, 1) := by decide +kernel
theorem dX9_turn_34 : decode cX9_turn 34 = .ok (.iaload, 1) := by decide +kernel
theorem dX9_turn_35 : decode cX9_turn 35 = .ok (.iconst 1, 1) := by decide +kernel
theorem dX9_turn_36 : decode cX9_turn 36 = .ok (.iadd, 1) := by decide +kernel
theorem dX9_turn_37 : decode cX9_turn 37 = .ok (.goto 4, 3) := by decide +kernel
theorem dX9_turn_40 : decode cX9_turn 40 = .ok (.iconst 0, 1) := by decide +kernel
theorem dX9_turn_41 : decode cX9_turn 41 = .ok (.istore 4, 2) := by decide +kernel
theorem dX9_turn_43 : decode cX9_turn 43 = .ok (.iload 4, 2) := by decide +kernel
theorem dX9_turn_45 : decode cX9_turn 45 = .ok (.iconst 3, 1) := by decide +kernel
theorem dX9_turn_46 : decode cX9_turn 46 = .ok (.if_icmp .ge 118, 3) := by decide +kernel
theorem dX9_turn_49 : decode cX9_turn 49 = .ok (.iconst 0, 1) := by decide +kernel
theorem dX9_turn_50 : decode cX9_turn 50 = .ok (.istore 5, 2) := by decide +kernel
theorem dX9_turn_52 : decode cX9_turn 52 = .ok (.iload 5, 2) := by decide +kernel
theorem dX9_turn_54 : decode cX9_turn 54 = .ok (.bipush 8, 2) := by decide +kernel
theorem dX9_turn_56 : decode cX9_turn 56 = .ok (.if_icmp .ge 33, 3) := by decide +kernel
theorem dX9_turn_59 : decode cX9_turn 59 = .ok (.aload_n 0, 1) := by decide +kernel
theorem dX9_turn_60 : decode cX9_turn 60 = .ok (.getfield 26, 3) := by decide +kernel
theorem dX9_turn_63 : decode cX9_turn 63 = .ok (.bipush 8, 2) := by decide +kernel
theorem dX9_turn_65 : decode cX9_turn 65 = .ok (.iload_n 1, 1) := by decide +kernel
theorem dX9_turn_66 : decode cX9_turn 66 = .ok (.imul, 1) := by decide +kernel
theorem dX9_turn_67 : decode cX9_turn 67 = .ok (.iload 5, 2) := by decide +kernel
theorem dX9_turn_69 : decode cX9_turn 69 = .ok (.iadd, 1) := by decide +kernel
theorem dX9_turn_70 : decode cX9_turn 70 = .ok (.aload_n 0, 1) := by decide +kernel
theorem dX9_turn_71 : decode cX9_turn 71 = .ok (.getfield 26, 3) := by decide +kernel
theorem dX9_turn_74 : decode cX9_turn 74 = .ok (.bipush 8, 2) := by decide +kernel
theorem dX9_turn_76 : decode cX9_turn 76 = .ok (.iload_n 3, 1) := by decide +kernel
theorem dX9_turn_77 : decode cX9_turn 77 = .ok (.imul, 1) := by decide +kernel
theorem dX9_turn_78 : decode cX9_turn 78 = .ok (.iload 5, 2) := by decide +kernel
theorem dX9_turn_80 : decode cX9_turn 80 = .ok (.iadd, 1) := by decide +kernel
theorem dX9_turn_81 : decode cX9_turn 81 = .ok (.laload, 1) := by decide +kernel
theorem dX9_turn_82 : decode cX9_turn 82 = .ok (.lastore, 1) := by decide +kernel
theorem dX9_turn_83 : decode cX9_turn 83 = .ok (.iinc 5 1, 3) := by decide +kernel
theorem dX9_turn_86 : decode cX9_turn 86 = .ok (.goto (-34), 3) := by decide +kernel
theorem dX9_turn_89 : decode cX9_turn 89 = .ok (.iconst 0, 1) := by decide +kernel
theorem dX9_turn_90 : decode cX9_turn 90 = .ok (.istore 5, 2) := by decide +kernel
theorem dX9_turn_92 : decode cX9_turn 92 = .ok (.iload 5, 2) := by decide +kernel
theorem dX9_turn_94 : decode cX9_turn 94 = .ok (.bipush 27, 2) := by decide +kernel
theorem dX9_turn_96 : decode cX9_turn 96 = .ok (.if_icmp .ge 33, 3) := by decide +kernel
theorem dX9_turn_99 : decode cX9_turn 99 = .ok (.aload_n 0, 1) := by decide +kernel
theorem dX9_turn_100 : decode cX9_turn 100 = .ok (.getfield 38, 3) := by decide +kernel
theorem dX9_turn_103 : decode cX9_turn 103 = .ok (.bipush 27, 2) := by decide +kernel
theorem dX9_turn_105 : decode cX9_turn 105 = .ok (.iload_n 1, 1) := by decide +kernel
theorem dX9_turn_106 : decode cX9_turn 106 = .ok (.imul, 1) := by decide +kernel
theorem dX9_turn_107 : decode cX9_turn 107 = .ok (.iload 5, 2) := by decide +kernel
theorem dX9_turn_109 : decode cX9_turn 109 = .ok (.iadd, 1) := by decide +kernel
theorem dX9_turn_110 : decode cX9_turn 110 = .ok (.aload_n 0, 1) := by decide +kernel
theorem dX9_turn_111 : decode cX9_turn 111 = .ok (.getfield 38, 3) := by decide +kernel
theorem dX9_turn_114 : decode cX9_turn 114 = .ok (.bipush 27, 2) := by decide +kernel
theorem dX9_turn_116 : decode cX9_turn 116 = .ok (.iload_n 3, 1) := by decide +kernel
theorem dX9_turn_117 : decode cX9_turn 117 = .ok (.imul, 1) := by decide +kernel
theorem dX9_turn_118 : decode cX9_turn 118 = .ok (.iload 5, 2) := by decide +kernel
theorem dX9_turn_120 : decode cX9_turn 120 = .ok (.iadd, 1) := by decide +kernel
theorem dX9_turn_121 : decode cX9_turn 121 = .ok (.iaload, 1) := by decide +kernel
theorem dX9_turn_122 : decode cX9_turn 122 = .ok (.iastore, 1) := by decide +kernel
theorem dX9_turn_123 : decode cX9_turn 123 = .ok (.iinc 5 1, 3) := by decide +kernel
theorem dX9_turn_126 : decode cX9_turn 126 = .ok (.goto (-34), 3) := by decide +kernel
theorem dX9_turn_129 : decode cX9_turn 129 = .ok (.aload_n 0, 1) := by decide +kernel
theorem dX9_turn_130 : decode cX9_turn 130 = .ok (.getfield 29, 3) := by decide +kernel
theorem dX9_turn_133 : decode cX9_turn 133 = .ok (.iload_n 1, 1) := by decide +kernel
theorem dX9_turn_134 : decode cX9_turn 134 = .ok (.aload_n 0, 1) := by decide +kernel
theorem dX9_turn_135 : decode cX9_turn 135 = .ok (.getfield 29, 3) := by decide +kernel
theorem dX9_turn_138 : decode cX9_turn 138 = .ok (.iload_n 3, 1) := by decide +kernel
theorem dX9_turn_139 : decode cX9_turn 139 = .ok (.laload, 1) := by decide +kernel
theorem dX9_turn_140 : decode cX9_turn 140 = .ok (.lastore, 1) := by decide +kernel
theorem dX9_turn_141 : decode cX9_turn 141 = .ok (.aload_n 0, 1) := by decide +kernel
theorem dX9_turn_142 : decode cX9_turn 142 = .ok (.getfield 32, 3) := by decide +kernel
theorem dX9_turn_145 : decode cX9_turn 145 = .ok (.iload_n 1, 1) := by decide +kernel
theorem dX9_turn_146 : decode cX9_turn 146 = .ok (.aload_n 0, 1) := by decide +kernel
theorem dX9_turn_147 : decode cX9_turn 147 = .ok (.getfield 32, 3) := by decide +kernel
theorem dX9_turn_150 : decode cX9_turn 150 = .ok (.iload_n 3, 1) := by decide +kernel
theorem dX9_turn_151 : decode cX9_turn 151 = .ok (.iaload, 1) := by decide +kernel
theorem dX9_turn_152 : decode cX9_turn 152 = .ok (.iastore, 1) := by decide +kernel
theorem dX9_turn_153 : decode cX9_turn 153 = .ok (.aload_n 0, 1) := by decide +kernel
theorem dX9_turn_154 : decode cX9_turn 154 = .ok (.getfield 35, 3) := by decide +kernel
theorem dX9_turn_157 : decode cX9_turn 157 = .ok (.iload_n 1, 1) := by decide +kernel
theorem dX9_turn_158 : decode cX9_turn 158 = .ok (.iload 4, 2) := by decide +kernel
theorem dX9_turn_160 : decode cX9_turn 160 = .ok (.iastore, 1) := by decide +kernel
theorem dX9_turn_161 : decode cX9_turn 161 = .ok (.iinc 1 1, 3) := by decide +kernel
theorem dX9_turn_164 : decode cX9_turn 164 = .ok (.iinc 3 1, 3) := by decide +kernel
theorem dX9_turn_167 : decode cX9_turn 167 = .ok (.goto (-153), 3) := by decide +kernel
theorem dX9_turn_170 : decode cX9_turn 170 = .ok (.aload_n 0, 1) := by decide +kernel
theorem dX9_turn_171 : decode cX9_turn 171 = .ok (.iload_n 1, 1) := by decide +kernel
theorem dX9_turn_172 : decode cX9_turn 172 = .ok (.putfield 69, 3) := by decide +kernel
theorem dX9_turn_175 : decode cX9_turn 175 = .ok (.iload_n 2, 1) := by decide +kernel
theorem dX9_turn_176 : decode cX9_turn 176 = .ok (.iload_n 1, 1) := by decide +kernel
theorem dX9_turn_177 : decode cX9_turn 177 = .ok (.isub, 1) := by decide +kernel
theorem dX9_turn_178 : decode cX9_turn 178 = .ok (.ireturn, 1) := by decide +kernel
theorem dX9_told_0 : decode cX9_told 0 = .ok (.aload_n 0, 1) := by decide +kernel
theorem dX9_told_1 : decode cX9_told 1 = .ok (.iconst 0, 1) := by decide +kernel
theorem dX9_told_2 : decode cX9_told 2 = .ok (.putfield 63, 3) := by decide +kernel
theorem dX9_told_5 : decode cX9_told 5 = .ok (.iload_n 1, 1) := by decide +kernel
theorem dX9_told_6 : decode cX9_told 6 = .ok (.ifCond .lt 8, 3) := by decide +kernel
theorem dX9_told_9 : decode cX9_told 9 = .ok (.iload_n 1, 1) := by decide +kernel
theorem dX9_told_10 : decode cX9_told 10 = .ok (.iconst 4, 1) := by decide +kernel
theorem dX9_told_11 : decode cX9_told 11 = .ok (.if_icmp .le 6, 3) := by decide +kernel
theorem dX9_told_14 : decode cX9_told 14 = .ok (.bipush (-2), 2) := by decide +kernel
theorem dX9_told_16 : decode cX9_told 16 = .ok (.ireturn, 1) := by decide +kernel
theorem dX9_told_17 : decode cX9_told 17 = .ok (.iload_n 1, 1) := by decide +kernel
theorem dX9_told_18 : decode cX9_told 18 = .ok (.iconst 3, 1) := by decide +kernel
theorem dX9_told_19 : decode cX9_told 19 = .ok (.if_icmp .ge 31, 3) := by decide +kernel
theorem dX9_told_22 : decode cX9_told 22 = .ok (.iload_n 1, 1) := by decide +kernel
theorem dX9_told_23 : decode cX9_told 23 = .ok (.ifCond .ne 10, 3) := by decide +kernel
theorem dX9_told_26 : decode cX9_told 26 = .ok (.aload_n 0, 1) := by decide +kernel
theorem dX9_told_27 : decode cX9_told 27 = .ok (.getfield 66, 3) := by decide +kernel
theorem dX9_told_30 : decode cX9_told 30 = .ok (.goto 19, 3) := by decide +kernel
theorem dX9_told_33 : decode cX9_told 33 = .ok (.iload_n 1, 1) := by decide +kernel
theorem dX9_told_34 : decode cX9_told 34 = .ok (.iconst 1, 1) := by decide +kernel
theorem dX9_told_35 : decode cX9_told 35 = .ok (.if_icmp .ne 10, 3) := by decide +kernel
theorem dX9_told_38 : decode cX9_told 38 = .ok (.aload_n 0, 1) := by decide +kernel
theorem dX9_told_39 : decode cX9_told 39 = .ok (.getfield 72, 3) := by decide +kernel
theorem dX9_told_42 : decode cX9_told 42 = .ok (.goto 7, 3) := by decide +kernel
theorem dX9_told_45 : decode cX9_told 45 = .ok (.aload_n 0, 1) := by decide +kernel
theorem dX9_told_46 : decode cX9_told 46 = .ok (.getfield 69, 3) := by decide +kernel
theorem dX9_told_49 : decode cX9_told 49 = .ok (.ireturn, 1) := by decide +kernel
theorem dX9_told_50 : decode cX9_told 50 = .ok (.iconst 0, 1) := by decide +kernel
theorem dX9_told_51 : decode cX9_told 51 = .ok (.istore_n 2, 1) := by decide +kernel
theorem dX9_told_52 : decode cX9_told 52 = .ok (.iconst 0, 1) := by decide +kernel
theorem dX9_told_53 : decode cX9_told 53 = .ok (.istore_n 3, 1) := by decide +kernel
theorem dX9_told_54 : decode cX9_told 54 = .ok (.iload_n 3, 1) := by decide +kernel
theorem dX9_told_55 : decode cX9_told 55 = .ok (.aload_n 0, 1) := by decide +kernel
theorem dX9_told_56 : decode cX9_told 56 = .ok (.getfield 69, 3) := by decide +kernel
theorem dX9_told_59 : decode cX9_told 59 = .ok (.if_icmp .ge 43, 3) := by decide +kernel
theorem dX9_told_62 : decode cX9_told 62 = .ok (.iload_n 2, 1) := by decide +kernel
theorem dX9_told_63 : decode cX9_told 63 = .ok (.iload_n 1, 1) := by decide +kernel
theorem dX9_told_64 : decode cX9_told 64 = .ok (.iconst 3, 1) := by decide +kernel
theorem dX9_told_65 : decode cX9_told 65 = .ok (.if_icmp .ne 16, 3) := by decide +kernel
theorem dX9_told_68 : decode cX9_told 68 = .ok (.aload_n 0, 1) := by decide +kernel
theorem dX9_told_69 : decode cX9_told 69 = .ok (.iload_n 3, 1) := by decide +kernel
theorem dX9_told_70 : decode cX9_told 70 = .ok (.invokevirtual 194, 3) := by decide +kernel
theorem dX9_told_73 : decode cX9_told 73 = .ok (.lconst 0, 1) := by decide +kernel
theorem dX9_told_74 : decode cX9_told 74 = .ok (.lcmp, 1) := by decide +kernel
theorem dX9_told_75 : decode cX9_told 75 = .ok (.ifCond .le 18, 3) := by decide +kernel
theorem dX9_told_78 : decode cX9_told 78 = .ok (.goto 11, 3) := by decide +kernel
theorem dX9_told_81 : decode cX9_told 81 = .ok (.aload_n 0, 1) := by decide +kernel
theorem dX9_told_82 : decode cX9_told 82 = .ok (.iload_n 3, 1) := by decide +kernel
theorem dX9_told_83 : decode cX9_told 83 = .ok (.invokevirtual 191, 3) := by decide +kernel
theorem dX9_told_86 : decode cX9_told 86 = .ok (.ifCond .eq 7, 3) := by decide +kernel
theorem dX9_told_89 : decode cX9_told 89 = .ok (.iconst 1, 1) := by decide +kernel
theorem dX9_told_90 : decode cX9_told 90 = .ok (.goto 4, 3) := by decide +kernel
theorem dX9_told_93 : decode cX9_told 93 = .ok (.iconst 0, 1) := by decide +kernel
theorem dX9_told_94 : decode cX9_told 94 = .ok (.iadd, 1) := by decide +kernel
theorem dX9_told_95 : decode cX9_told 95 = .ok (.istore_n 2, 1) := by decide +kernel
theorem dX9_told_96 : decode cX9_told 96 = .ok (.iinc 3 1, 3) := by decide +kernel
theorem dX9_told_99 : decode cX9_told 99 = .ok (.goto (-45), 3) := by decide +kernel
theorem dX9_told_102 : decode cX9_told 102 = .ok (.iload_n 2, 1) := by decide +kernel
theorem dX9_told_103 : decode cX9_told 103 = .ok (.ireturn, 1) := by decide +kernel
theorem dX9_clear_0 : decode cX9_clear 0 = .ok (.aload_n 0, 1) := by decide +kernel
theorem dX9_clear_1 : decode cX9_clear 1 = .ok (.iconst 0, 1) := by decide +kernel
theorem dX9_clear_2 : decode cX9_clear 2 = .ok (.putfield 63, 3) := by decide +kernel
theorem dX9_clear_5 : decode cX9_clear 5 = .ok (.aload_n 0, 1) := by decide +kernel
theorem dX9_clear_6 : decode cX9_clear 6 = .ok (.iconst 0, 1) := by decide +kernel
theorem dX9_clear_7 : decode cX9_clear 7 = .ok (.putfield 66, 3) := by decide +kernel
theorem dX9_clear_10 : decode cX9_clear 10 = .ok (.aload_n 0, 1) := by decide +kernel
theorem dX9_clear_11 : decode cX9_clear 11 = .ok (.iconst 0, 1) := by decide +kernel
theorem dX9_clear_12 : decode cX9_clear 12 = .ok (.putfield 72, 3) := by decide +kernel
theorem dX9_clear_15 : decode cX9_clear 15 = .ok (.aload_n 0, 1) := by decide +kernel
theorem dX9_clear_16 : decode cX9_clear 16 = .ok (.iconst 0, 1) := by decide +kernel
theorem dX9_clear_17 : decode cX9_clear 17 = .ok (.putfield 69, 3) := by decide +kernel
theorem dX9_clear_20 : decode cX9_clear 20 = .ok (.aload_n 0, 1) := by decide +kernel
theorem dX9_clear_21 : decode cX9_clear 21 = .ok (.iconst 1, 1) := by decide +kernel
theorem dX9_clear_22 : decode cX9_clear 22 = .ok (.putfield 41, 3) := by decide +kernel
theorem dX9_clear_25 : decode cX9_clear 25 = .ok (.return_, 1) := by decide +kernel
end
section
theorem dJ6_bitCount_0f7a4_0 : decode cJ6_bitCount_0f7a4 0 = .ok (.iload_n 0, 1) := by decide +kernel
theorem dJ6_bitCount_0f7a4_1 : decode cJ6_bitCount_0f7a4 1 = .ok (.iload_n 0, 1) := by decide +kernel
theorem dJ6_bitCount_0f7a4_2 : decode cJ6_bitCount_0f7a4 2 = .ok (.iconst 1, 1) := by decide +kernel
theorem dJ6_bitCount_0f7a4_3 : decode cJ6_bitCount_0f7a4 3 = .ok (.iushr, 1) := by decide +kernel
theorem dJ6_bitCount_0f7a4_4 : decode cJ6_bitCount_0f7a4 4 = .ok (.ldc_w 265, 3) := by decide +kernel
theorem dJ6_bitCount_0f7a4_7 : decode cJ6_bitCount_0f7a4 7 = .ok (.iand, 1) := by decide +kernel
theorem dJ6_bitCount_0f7a4_8 : decode cJ6_bitCount_0f7a4 8 = .ok (.isub, 1) := by decide +kernel
theorem dJ6_bitCount_0f7a4_9 : decode cJ6_bitCount_0f7a4 9 = .ok (.istore_n 0, 1) := by decide +kernel
theorem dJ6_bitCount_0f7a4_10 : decode cJ6_bitCount_0f7a4 10 = .ok (.iload_n 0, 1) := by decide +kernel
theorem dJ6_bitCount_0f7a4_11 : decode cJ6_bitCount_0f7a4 11 = .ok (.ldc_w 266, 3) := by decide +kernel
theorem dJ6_bitCount_0f7a4_14 : decode cJ6_bitCount_0f7a4 14 = .ok (.iand, 1) := by decide +kernel
theorem dJ6_bitCount_0f7a4_15 : decode cJ6_bitCount_0f7a4 15 = .ok (.iload_n 0, 1) := by decide +kernel
theorem dJ6_bitCount_0f7a4_16 : decode cJ6_bitCount_0f7a4 16 = .ok (.iconst 2, 1) := by decide +kernel
theorem dJ6_bitCount_0f7a4_17 : decode cJ6_bitCount_0f7a4 17 = .ok (.iushr, 1) := by decide +kernel
theorem dJ6_bitCount_0f7a4_18 : decode cJ6_bitCount_0f7a4 18 = .ok (.ldc_w 266, 3) := by decide +kernel
theorem dJ6_bitCount_0f7a4_21 : decode cJ6_bitCount_0f7a4 21 = .ok (.iand, 1) := by decide +kernel
theorem dJ6_bitCount_0f7a4_22 : decode cJ6_bitCount_0f7a4 22 = .ok (.iadd, 1) := by decide +kernel
theorem dJ6_bitCount_0f7a4_23 : decode cJ6_bitCount_0f7a4 23 = .ok (.istore_n 0, 1) := by decide +kernel
theorem dJ6_bitCount_0f7a4_24 : decode cJ6_bitCount_0f7a4 24 = .ok (.iload_n 0, 1) := by decide +kernel
theorem dJ6_bitCount_0f7a4_25 : decode cJ6_bitCount_0f7a4 25 = .ok (.iload_n 0, 1) := by decide +kernel
theorem dJ6_bitCount_0f7a4_26 : decode cJ6_bitCount_0f7a4 26 = .ok (.iconst 4, 1) := by decide +kernel
theorem dJ6_bitCount_0f7a4_27 : decode cJ6_bitCount_0f7a4 27 = .ok (.iushr, 1) := by decide +kernel
theorem dJ6_bitCount_0f7a4_28 : decode cJ6_bitCount_0f7a4 28 = .ok (.iadd, 1) := by decide +kernel
theorem dJ6_bitCount_0f7a4_29 : decode cJ6_bitCount_0f7a4 29 = .ok (.ldc_w 267, 3) := by decide +kernel
theorem dJ6_bitCount_0f7a4_32 : decode cJ6_bitCount_0f7a4 32 = .ok (.iand, 1) := by decide +kernel
theorem dJ6_bitCount_0f7a4_33 : decode cJ6_bitCount_0f7a4 33 = .ok (.istore_n 0, 1) := by decide +kernel
theorem dJ6_bitCount_0f7a4_34 : decode cJ6_bitCount_0f7a4 34 = .ok (.iload_n 0, 1) := by decide +kernel
theorem dJ6_bitCount_0f7a4_35 : decode cJ6_bitCount_0f7a4 35 = .ok (.iload_n 0, 1) := by decide +kernel
theorem dJ6_bitCount_0f7a4_36 : decode cJ6_bitCount_0f7a4 36 = .ok (.bipush 8, 2) := by decide +kernel
theorem dJ6_bitCount_0f7a4_38 : decode cJ6_bitCount_0f7a4 38 = .ok (.iushr, 1) := by decide +kernel
theorem dJ6_bitCount_0f7a4_39 : decode cJ6_bitCount_0f7a4 39 = .ok (.iadd, 1) := by decide +kernel
theorem dJ6_bitCount_0f7a4_40 : decode cJ6_bitCount_0f7a4 40 = .ok (.istore_n 0, 1) := by decide +kernel
theorem dJ6_bitCount_0f7a4_41 : decode cJ6_bitCount_0f7a4 41 = .ok (.iload_n 0, 1) := by decide +kernel
theorem dJ6_bitCount_0f7a4_42 : decode cJ6_bitCount_0f7a4 42 = .ok (.iload_n 0, 1) := by decide +kernel
theorem dJ6_bitCount_0f7a4_43 : decode cJ6_bitCount_0f7a4 43 = .ok (.bipush 16, 2) := by decide +kernel
theorem dJ6_bitCount_0f7a4_45 : decode cJ6_bitCount_0f7a4 45 = .ok (.iushr, 1) := by decide +kernel
theorem dJ6_bitCount_0f7a4_46 : decode cJ6_bitCount_0f7a4 46 = .ok (.iadd, 1) := by decide +kernel
theorem dJ6_bitCount_0f7a4_47 : decode cJ6_bitCount_0f7a4 47 = .ok (.istore_n 0, 1) := by decide +kernel
theorem dJ6_bitCount_0f7a4_48 : decode cJ6_bitCount_0f7a4 48 = .ok (.iload_n 0, 1) := by decide +kernel
theorem dJ6_bitCount_0f7a4_49 : decode cJ6_bitCount_0f7a4 49 = .ok (.bipush 63, 2) := by decide +kernel
theorem dJ6_bitCount_0f7a4_51 : decode cJ6_bitCount_0f7a4 51 = .ok (.iand, 1) := by decide +kernel
theorem dJ6_bitCount_0f7a4_52 : decode cJ6_bitCount_0f7a4 52 = .ok (.ireturn, 1) := by decide +kernel
theorem dJ9_floorDiv_7cf53_0 : decode cJ9_floorDiv_7cf53 0 = .ok (.iload_n 0, 1) := by decide +kernel
theorem dJ9_floorDiv_7cf53_1 : decode cJ9_floorDiv_7cf53 1 = .ok (.iload_n 1, 1) := by decide +kernel
theorem dJ9_floorDiv_7cf53_2 : decode cJ9_floorDiv_7cf53 2 = .ok (.idiv, 1) := by decide +kernel
theorem dJ9_floorDiv_7cf53_3 : decode cJ9_floorDiv_7cf53 3 = .ok (.istore_n 2, 1) := by decide +kernel
theorem dJ9_floorDiv_7cf53_4 : decode cJ9_floorDiv_7cf53 4 = .ok (.iload_n 0, 1) := by decide +kernel
theorem dJ9_floorDiv_7cf53_5 : decode cJ9_floorDiv_7cf53 5 = .ok (.iload_n 1, 1) := by decide +kernel
theorem dJ9_floorDiv_7cf53_6 : decode cJ9_floorDiv_7cf53 6 = .ok (.ixor, 1) := by decide +kernel
theorem dJ9_floorDiv_7cf53_7 : decode cJ9_floorDiv_7cf53 7 = .ok (.ifCond .ge 14, 3) := by decide +kernel
theorem dJ9_floorDiv_7cf53_10 : decode cJ9_floorDiv_7cf53 10 = .ok (.iload_n 2, 1) := by decide +kernel
theorem dJ9_floorDiv_7cf53_11 : decode cJ9_floorDiv_7cf53 11 = .ok (.iload_n 1, 1) := by decide +kernel
theorem dJ9_floorDiv_7cf53_12 : decode cJ9_floorDiv_7cf53 12 = .ok (.imul, 1) := by decide +kernel
theorem dJ9_floorDiv_7cf53_13 : decode cJ9_floorDiv_7cf53 13 = .ok (.iload_n 0, 1) := by decide +kernel
theorem dJ9_floorDiv_7cf53_14 : decode cJ9_floorDiv_7cf53 14 = .ok (.if_icmp .eq 7, 3) := by decide +kernel
theorem dJ9_floorDiv_7cf53_17 : decode cJ9_floorDiv_7cf53 17 = .ok (.iload_n 2, 1) := by decide +kernel
theorem dJ9_floorDiv_7cf53_18 : decode cJ9_floorDiv_7cf53 18 = .ok (.iconst 1, 1) := by decide +kernel
theorem dJ9_floorDiv_7cf53_19 : decode cJ9_floorDiv_7cf53 19 = .ok (.isub, 1) := by decide +kernel
theorem dJ9_floorDiv_7cf53_20 : decode cJ9_floorDiv_7cf53 20 = .ok (.ireturn, 1) := by decide +kernel
theorem dJ9_floorDiv_7cf53_21 : decode cJ9_floorDiv_7cf53 21 = .ok (.iload_n 2, 1) := by decide +kernel
theorem dJ9_floorDiv_7cf53_22 : decode cJ9_floorDiv_7cf53 22 = .ok (.ireturn, 1) := by decide +kernel
theorem dJ9_floorDiv_f86c9_0 : decode cJ9_floorDiv_f86c9 0 = .ok (.lload_n 0, 1) := by decide +kernel
theorem dJ9_floorDiv_f86c9_1 : decode cJ9_floorDiv_f86c9 1 = .ok (.lload_n 2, 1) := by decide +kernel
theorem dJ9_floorDiv_f86c9_2 : decode cJ9_floorDiv_f86c9 2 = .ok (.ldiv, 1) := by decide +kernel
theorem dJ9_floorDiv_f86c9_3 : decode cJ9_floorDiv_f86c9 3 = .ok (.lstore 4, 2) := by decide +kernel
theorem dJ9_floorDiv_f86c9_5 : decode cJ9_floorDiv_f86c9 5 = .ok (.lload_n 0, 1) := by decide +kernel
theorem dJ9_floorDiv_f86c9_6 : decode cJ9_floorDiv_f86c9 6 = .ok (.lload_n 2, 1) := by decide +kernel
theorem dJ9_floorDiv_f86c9_7 : decode cJ9_floorDiv_f86c9 7 = .ok (.lxor, 1) := by decide +kernel
theorem dJ9_floorDiv_f86c9_8 : decode cJ9_floorDiv_f86c9 8 = .ok (.lconst 0, 1) := by decide +kernel
theorem dJ9_floorDiv_f86c9_9 : decode cJ9_floorDiv_f86c9 9 = .ok (.lcmp, 1) := by decide +kernel
theorem dJ9_floorDiv_f86c9_10 : decode cJ9_floorDiv_f86c9 10 = .ok (.ifCond .ge 17, 3) := by decide +kernel
theorem dJ9_floorDiv_f86c9_13 : decode cJ9_floorDiv_f86c9 13 = .ok (.lload 4, 2) := by decide +kernel
theorem dJ9_floorDiv_f86c9_15 : decode cJ9_floorDiv_f86c9 15 = .ok (.lload_n 2, 1) := by decide +kernel
theorem dJ9_floorDiv_f86c9_16 : decode cJ9_floorDiv_f86c9 16 = .ok (.lmul, 1) := by decide +kernel
theorem dJ9_floorDiv_f86c9_17 : decode cJ9_floorDiv_f86c9 17 = .ok (.lload_n 0, 1) := by decide +kernel
theorem dJ9_floorDiv_f86c9_18 : decode cJ9_floorDiv_f86c9 18 = .ok (.lcmp, 1) := by decide +kernel
theorem dJ9_floorDiv_f86c9_19 : decode cJ9_floorDiv_f86c9 19 = .ok (.ifCond .eq 8, 3) := by decide +kernel
theorem dJ9_floorDiv_f86c9_22 : decode cJ9_floorDiv_f86c9 22 = .ok (.lload 4, 2) := by decide +kernel
theorem dJ9_floorDiv_f86c9_24 : decode cJ9_floorDiv_f86c9 24 = .ok (.lconst 1, 1) := by decide +kernel
theorem dJ9_floorDiv_f86c9_25 : decode cJ9_floorDiv_f86c9 25 = .ok (.lsub, 1) := by decide +kernel
theorem dJ9_floorDiv_f86c9_26 : decode cJ9_floorDiv_f86c9 26 = .ok (.lreturn, 1) := by decide +kernel
theorem dJ9_floorDiv_f86c9_27 : decode cJ9_floorDiv_f86c9 27 = .ok (.lload 4, 2) := by decide +kernel
theorem dJ9_floorDiv_f86c9_29 : decode cJ9_floorDiv_f86c9 29 = .ok (.lreturn, 1) := by decide +kernel
theorem dJ9_floorMod_7cf53_0 : decode cJ9_floorMod_7cf53 0 = .ok (.iload_n 0, 1) := by decide +kernel
theorem dJ9_floorMod_7cf53_1 : decode cJ9_floorMod_7cf53 1 = .ok (.iload_n 1, 1) := by decide +kernel
theorem dJ9_floorMod_7cf53_2 : decode cJ9_floorMod_7cf53 2 = .ok (.irem, 1) := by decide +kernel
theorem dJ9_floorMod_7cf53_3 : decode cJ9_floorMod_7cf53 3 = .ok (.istore_n 2, 1) := by decide +kernel
theorem dJ9_floorMod_7cf53_4 : decode cJ9_floorMod_7cf53 4 = .ok (.iload_n 0, 1) := by decide +kernel
theorem dJ9_floorMod_7cf53_5 : decode cJ9_floorMod_7cf53 5 = .ok (.iload_n 1, 1) := by decide +kernel
theorem dJ9_floorMod_7cf53_6 : decode cJ9_floorMod_7cf53 6 = .ok (.ixor, 1) := by decide +kernel
theorem dJ9_floorMod_7cf53_7 : decode cJ9_floorMod_7cf53 7 = .ok (.ifCond .ge 11, 3) := by decide +kernel
theorem dJ9_floorMod_7cf53_10 : decode cJ9_floorMod_7cf53 10 = .ok (.iload_n 2, 1) := by decide +kernel
theorem dJ9_floorMod_7cf53_11 : decode cJ9_floorMod_7cf53 11 = .ok (.ifCond .eq 7, 3) := by decide +kernel
theorem dJ9_floorMod_7cf53_14 : decode cJ9_floorMod_7cf53 14 = .ok (.iload_n 2, 1) := by decide +kernel
theorem dJ9_floorMod_7cf53_15 : decode cJ9_floorMod_7cf53 15 = .ok (.iload_n 1, 1) := by decide +kernel
theorem dJ9_floorMod_7cf53_16 : decode cJ9_floorMod_7cf53 16 = .ok (.iadd, 1) := by decide +kernel
theorem dJ9_floorMod_7cf53_17 : decode cJ9_floorMod_7cf53 17 = .ok (.ireturn, 1) := by decide +kernel
theorem dJ9_floorMod_7cf53_18 : decode cJ9_floorMod_7cf53 18 = .ok (.iload_n 2, 1) := by decide +kernel
theorem dJ9_floorMod_7cf53_19 : decode cJ9_floorMod_7cf53 19 = .ok (.ireturn, 1) := by decide +kernel
theorem dJ9_floorMod_f86c9_0 : decode cJ9_floorMod_f86c9 0 = .ok (.lload_n 0, 1) := by decide +kernel
theorem dJ9_floorMod_f86c9_1 : decode cJ9_floorMod_f86c9 1 = .ok (.lload_n 2, 1) := by decide +kernel
theorem dJ9_floorMod_f86c9_2 : decode cJ9_floorMod_f86c9 2 = .ok (.lrem, 1) := by decide +kernel
theorem dJ9_floorMod_f86c9_3 : decode cJ9_floorMod_f86c9 3 = .ok (.lstore 4, 2) := by decide +kernel
theorem dJ9_floorMod_f86c9_5 : decode cJ9_floorMod_f86c9 5 = .ok (.lload_n 0, 1) := by decide +kernel
theorem dJ9_floorMod_f86c9_6 : decode cJ9_floorMod_f86c9 6 = .ok (.lload_n 2, 1) := by decide +kernel
theorem dJ9_floorMod_f86c9_7 : decode cJ9_floorMod_f86c9 7 = .ok (.lxor, 1) := by decide +kernel
theorem dJ9_floorMod_f86c9_8 : decode cJ9_floorMod_f86c9 8 = .ok (.lconst 0, 1) := by decide +kernel
theorem dJ9_floorMod_f86c9_9 : decode cJ9_floorMod_f86c9 9 = .ok (.lcmp, 1) := by decide +kernel
theorem dJ9_floorMod_f86c9_10 : decode cJ9_floorMod_f86c9 10 = .ok (.ifCond .ge 15, 3) := by decide +kernel
theorem dJ9_floorMod_f86c9_13 : decode cJ9_floorMod_f86c9 13 = .ok (.lload 4, 2) := by decide +kernel
theorem dJ9_floorMod_f86c9_15 : decode cJ9_floorMod_f86c9 15 = .ok (.lconst 0, 1) := by decide +kernel
theorem dJ9_floorMod_f86c9_16 : decode cJ9_floorMod_f86c9 16 = .ok (.lcmp, 1) := by decide +kernel
theorem dJ9_floorMod_f86c9_17 : decode cJ9_floorMod_f86c9 17 = .ok (.ifCond .eq 8, 3) := by decide +kernel
theorem dJ9_floorMod_f86c9_20 : decode cJ9_floorMod_f86c9 20 = .ok (.lload 4, 2) := by decide +kernel
theorem dJ9_floorMod_f86c9_22 : decode cJ9_floorMod_f86c9 22 = .ok (.lload_n 2, 1) := by decide +kernel
theorem dJ9_floorMod_f86c9_23 : decode cJ9_floorMod_f86c9 23 = .ok (.ladd, 1) := by decide +kernel
theorem dJ9_floorMod_f86c9_24 : decode cJ9_floorMod_f86c9 24 = .ok (.lreturn, 1) := by decide +kernel
theorem dJ9_floorMod_f86c9_25 : decode cJ9_floorMod_f86c9 25 = .ok (.lload 4, 2) := by decide +kernel
theorem dJ9_floorMod_f86c9_27 : decode cJ9_floorMod_f86c9 27 = .ok (.lreturn, 1) := by decide +kernel
theorem dJ9_abs_0f7a4_0 : decode cJ9_abs_0f7a4 0 = .ok (.iload_n 0, 1) := by decide +kernel
theorem dJ9_abs_0f7a4_1 : decode cJ9_abs_0f7a4 1 = .ok (.ifCond .ge 8, 3) := by decide +kernel
theorem dJ9_abs_0f7a4_4 : decode cJ9_abs_0f7a4 4 = .ok (.iload_n 0, 1) := by decide +kernel
theorem dJ9_abs_0f7a4_5 : decode cJ9_abs_0f7a4 5 = .ok (.ineg, 1) := by decide +kernel
theorem dJ9_abs_0f7a4_6 : decode cJ9_abs_0f7a4 6 = .ok (.goto 4, 3) := by decide +kernel
theorem dJ9_abs_0f7a4_9 : decode cJ9_abs_0f7a4 9 = .ok (.iload_n 0, 1) := by decide +kernel
theorem dJ9_abs_0f7a4_10 : decode cJ9_abs_0f7a4 10 = .ok (.ireturn, 1) := by decide +kernel
theorem dJ9_abs_067f4_0 : decode cJ9_abs_067f4 0 = .ok (.lload_n 0, 1) := by decide +kernel
theorem dJ9_abs_067f4_1 : decode cJ9_abs_067f4 1 = .ok (.lconst 0, 1) := by decide +kernel
theorem dJ9_abs_067f4_2 : decode cJ9_abs_067f4 2 = .ok (.lcmp, 1) := by decide +kernel
theorem dJ9_abs_067f4_3 : decode cJ9_abs_067f4 3 = .ok (.ifCond .ge 8, 3) := by decide +kernel
theorem dJ9_abs_067f4_6 : decode cJ9_abs_067f4 6 = .ok (.lload_n 0, 1) := by decide +kernel
theorem dJ9_abs_067f4_7 : decode cJ9_abs_067f4 7 = .ok (.lneg, 1) := by decide +kernel
theorem dJ9_abs_067f4_8 : decode cJ9_abs_067f4 8 = .ok (.goto 4, 3) := by decide +kernel
theorem dJ9_abs_067f4_11 : decode cJ9_abs_067f4 11 = .ok (.lload_n 0, 1) := by decide +kernel
theorem dJ9_abs_067f4_12 : decode cJ9_abs_067f4 12 = .ok (.lreturn, 1) := by decide +kernel
theorem dJ9_max_7cf53_0 : decode cJ9_max_7cf53 0 = .ok (.iload_n 0, 1) := by decide +kernel
theorem dJ9_max_7cf53_1 : decode cJ9_max_7cf53 1 = .ok (.iload_n 1, 1) := by decide +kernel
theorem dJ9_max_7cf53_2 : decode cJ9_max_7cf53 2 = .ok (.if_icmp .lt 7, 3) := by decide +kernel
theorem dJ9_max_7cf53_5 : decode cJ9_max_7cf53 5 = .ok (.iload_n 0, 1) := by decide +kernel
theorem dJ9_max_7cf53_6 : decode cJ9_max_7cf53 6 = .ok (.goto 4, 3) := by decide +kernel
theorem dJ9_max_7cf53_9 : decode cJ9_max_7cf53 9 = .ok (.iload_n 1, 1) := by decide +kernel
theorem dJ9_max_7cf53_10 : decode cJ9_max_7cf53 10 = .ok (.ireturn, 1) := by decide +kernel
theorem dJ9_max_f86c9_0 : decode cJ9_max_f86c9 0 = .ok (.lload_n 0, 1) := by decide +kernel
theorem dJ9_max_f86c9_1 : decode cJ9_max_f86c9 1 = .ok (.lload_n 2, 1) := by decide +kernel
theorem dJ9_max_f86c9_2 : decode cJ9_max_f86c9 2 = .ok (.lcmp, 1) := by decide +kernel
theorem dJ9_max_f86c9_3 : decode cJ9_max_f86c9 3 = .ok (.ifCond .lt 7, 3) := by decide +kernel
theorem dJ9_max_f86c9_6 : decode cJ9_max_f86c9 6 = .ok (.lload_n 0, 1) := by decide +kernel
theorem dJ9_max_f86c9_7 : decode cJ9_max_f86c9 7 = .ok (.goto 4, 3) := by decide +kernel
theorem dJ9_max_f86c9_10 : decode cJ9_max_f86c9 10 = .ok (.lload_n 2, 1) := by decide +kernel
theorem dJ9_max_f86c9_11 : decode cJ9_max_f86c9 11 = .ok (.lreturn, 1) := by decide +kernel
theorem dJ9_min_7cf53_0 : decode cJ9_min_7cf53 0 = .ok (.iload_n 0, 1) := by decide +kernel
theorem dJ9_min_7cf53_1 : decode cJ9_min_7cf53 1 = .ok (.iload_n 1, 1) := by decide +kernel
theorem dJ9_min_7cf53_2 : decode cJ9_min_7cf53 2 = .ok (.if_icmp .gt 7, 3) := by decide +kernel
theorem dJ9_min_7cf53_5 : decode cJ9_min_7cf53 5 = .ok (.iload_n 0, 1) := by decide +kernel
theorem dJ9_min_7cf53_6 : decode cJ9_min_7cf53 6 = .ok (.goto 4, 3) := by decide +kernel
theorem dJ9_min_7cf53_9 : decode cJ9_min_7cf53 9 = .ok (.iload_n 1, 1) := by decide +kernel
theorem dJ9_min_7cf53_10 : decode cJ9_min_7cf53 10 = .ok (.ireturn, 1) := by decide +kernel
theorem dJ7_fill_53178_0 : decode cJ7_fill_53178 0 = .ok (.iconst 0, 1) := by decide +kernel
theorem dJ7_fill_53178_1 : decode cJ7_fill_53178 1 = .ok (.istore_n 2, 1) := by decide +kernel
theorem dJ7_fill_53178_2 : decode cJ7_fill_53178 2 = .ok (.aload_n 0, 1) := by decide +kernel
theorem dJ7_fill_53178_3 : decode cJ7_fill_53178 3 = .ok (.arraylength, 1) := by decide +kernel
theorem dJ7_fill_53178_4 : decode cJ7_fill_53178 4 = .ok (.istore_n 3, 1) := by decide +kernel
theorem dJ7_fill_53178_5 : decode cJ7_fill_53178 5 = .ok (.iload_n 2, 1) := by decide +kernel
theorem dJ7_fill_53178_6 : decode cJ7_fill_53178 6 = .ok (.iload_n 3, 1) := by decide +kernel
theorem dJ7_fill_53178_7 : decode cJ7_fill_53178 7 = .ok (.if_icmp .ge 13, 3) := by decide +kernel
theorem dJ7_fill_53178_10 : decode cJ7_fill_53178 10 = .ok (.aload_n 0, 1) := by decide +kernel
theorem dJ7_fill_53178_11 : decode cJ7_fill_53178 11 = .ok (.iload_n 2, 1) := by decide +kernel
theorem dJ7_fill_53178_12 : decode cJ7_fill_53178 12 = .ok (.iload_n 1, 1) := by decide +kernel
theorem dJ7_fill_53178_13 : decode cJ7_fill_53178 13 = .ok (.iastore, 1) := by decide +kernel
theorem dJ7_fill_53178_14 : decode cJ7_fill_53178 14 = .ok (.iinc 2 1, 3) := by decide +kernel
theorem dJ7_fill_53178_17 : decode cJ7_fill_53178 17 = .ok (.goto (-12), 3) := by decide +kernel
theorem dJ7_fill_53178_20 : decode cJ7_fill_53178 20 = .ok (.return_, 1) := by decide +kernel
theorem dL_cut_0 : decode cL_cut 0 = .ok (.aload 4, 2) := by decide +kernel
theorem dL_cut_2 : decode cL_cut 2 = .ok (.iconst 0, 1) := by decide +kernel
theorem dL_cut_3 : decode cL_cut 3 = .ok (.aload_n 0, 1) := by decide +kernel
theorem dL_cut_4 : decode cL_cut 4 = .ok (.iload_n 1, 1) := by decide +kernel
theorem dL_cut_5 : decode cL_cut 5 = .ok (.iload_n 2, 1) := by decide +kernel
theorem dL_cut_6 : decode cL_cut 6 = .ok (.iload_n 3, 1) := by decide +kernel
theorem dL_cut_7 : decode cL_cut 7 = .ok (.invokevirtual 7, 3) := by decide +kernel
theorem dL_cut_10 : decode cL_cut 10 = .ok (.i2l, 1) := by decide +kernel
theorem dL_cut_11 : decode cL_cut 11 = .ok (.lastore, 1) := by decide +kernel
theorem dL_cut_12 : decode cL_cut 12 = .ok (.goto 11, 3) := by decide +kernel
theorem dL_cut_15 : decode cL_cut 15 = .ok (.astore 5, 2) := by decide +kernel
theorem dL_cut_17 : decode cL_cut 17 = .ok (.iconst 1, 1) := by decide +kernel
theorem dL_cut_18 : decode cL_cut 18 = .ok (.ireturn, 1) := by decide +kernel
theorem dL_cut_19 : decode cL_cut 19 = .ok (.astore 5, 2) := by decide +kernel
theorem dL_cut_21 : decode cL_cut 21 = .ok (.iconst 2, 1) := by decide +kernel
theorem dL_cut_22 : decode cL_cut 22 = .ok (.ireturn, 1) := by decide +kernel
theorem dL_cut_23 : decode cL_cut 23 = .ok (.iconst 0, 1) := by decide +kernel
theorem dL_cut_24 : decode cL_cut 24 = .ok (.ireturn, 1) := by decide +kernel
theorem dL_strength_0 : decode cL_strength 0 = .ok (.aload_n 3, 1) := by decide +kernel
theorem dL_strength_1 : decode cL_strength 1 = .ok (.iconst 0, 1) := by decide +kernel
theorem dL_strength_2 : decode cL_strength 2 = .ok (.aload_n 0, 1) := by decide +kernel
theorem dL_strength_3 : decode cL_strength 3 = .ok (.iload_n 1, 1) := by decide +kernel
theorem dL_strength_4 : decode cL_strength 4 = .ok (.iload_n 2, 1) := by decide +kernel
theorem dL_strength_5 : decode cL_strength 5 = .ok (.invokevirtual 17, 3) := by decide +kernel
theorem dL_strength_8 : decode cL_strength 8 = .ok (.lastore, 1) := by decide +kernel
theorem dL_strength_9 : decode cL_strength 9 = .ok (.goto 11, 3) := by decide +kernel
theorem dL_strength_12 : decode cL_strength 12 = .ok (.astore 4, 2) := by decide +kernel
theorem dL_strength_14 : decode cL_strength 14 = .ok (.iconst 1, 1) := by decide +kernel
theorem dL_strength_15 : decode cL_strength 15 = .ok (.ireturn, 1) := by decide +kernel
theorem dL_strength_16 : decode cL_strength 16 = .ok (.astore 4, 2) := by decide +kernel
theorem dL_strength_18 : decode cL_strength 18 = .ok (.iconst 2, 1) := by decide +kernel
theorem dL_strength_19 : decode cL_strength 19 = .ok (.ireturn, 1) := by decide +kernel
theorem dL_strength_20 : decode cL_strength 20 = .ok (.iconst 0, 1) := by decide +kernel
theorem dL_strength_21 : decode cL_strength 21 = .ok (.ireturn, 1) := by decide +kernel
theorem dL_law_0 : decode cL_law 0 = .ok (.new 8, 3) := by decide +kernel
theorem dL_law_3 : decode cL_law 3 = .ok (.dup, 1) := by decide +kernel
theorem dL_law_4 : decode cL_law 4 = .ok (.invokespecial 21, 3) := by decide +kernel
theorem dL_law_7 : decode cL_law 7 = .ok (.astore_n 1, 1) := by decide +kernel
theorem dL_law_8 : decode cL_law 8 = .ok (.new 22, 3) := by decide +kernel
theorem dL_law_11 : decode cL_law 11 = .ok (.dup, 1) := by decide +kernel
theorem dL_law_12 : decode cL_law 12 = .ok (.invokespecial 24, 3) := by decide +kernel
theorem dL_law_15 : decode cL_law 15 = .ok (.astore_n 2, 1) := by decide +kernel
theorem dL_law_16 : decode cL_law 16 = .ok (.iconst 1, 1) := by decide +kernel
theorem dL_law_17 : decode cL_law 17 = .ok (.newarray .long, 2) := by decide +kernel
theorem dL_law_19 : decode cL_law 19 = .ok (.astore_n 3, 1) := by decide +kernel
theorem dL_law_20 : decode cL_law 20 = .ok (.iconst 0, 1) := by decide +kernel
theorem dL_law_21 : decode cL_law 21 = .ok (.istore 4, 2) := by decide +kernel
theorem dL_law_23 : decode cL_law 23 = .ok (.iload 4, 2) := by decide +kernel
theorem dL_law_25 : decode cL_law 25 = .ok (.aload_n 0, 1) := by decide +kernel
theorem dL_law_26 : decode cL_law 26 = .ok (.arraylength, 1) := by decide +kernel
theorem dL_law_27 : decode cL_law 27 = .ok (.iconst 5, 1) := by decide +kernel
theorem dL_law_28 : decode cL_law 28 = .ok (.isub, 1) := by decide +kernel
theorem dL_law_29 : decode cL_law 29 = .ok (.if_icmp .gt 677, 3) := by decide +kernel
theorem dL_law_32 : decode cL_law 32 = .ok (.aload_n 0, 1) := by decide +kernel
theorem dL_law_33 : decode cL_law 33 = .ok (.iload 4, 2) := by decide +kernel
theorem dL_law_35 : decode cL_law 35 = .ok (.iaload, 1) := by decide +kernel
theorem dL_law_36 : decode cL_law 36 = .ok (.bipush 31, 2) := by decide +kernel
theorem dL_law_38 : decode cL_law 38 = .ok (.iand, 1) := by decide +kernel
theorem dL_law_39 : decode cL_law 39 = .ok (.tableswitch 661 0 16 #[81, 118, 143, 192, 241, 266, 279, 359, 408, 469, 494, 561, 574, 599, 612, 625, 650], 81) := by decide +kernel
theorem dL_law_120 : decode cL_law 120 = .ok (.aload_n 1, 1) := by decide +kernel
theorem dL_law_121 : decode cL_law 121 = .ok (.aload_n 0, 1) := by decide +kernel
theorem dL_law_122 : decode cL_law 122 = .ok (.iload 4, 2) := by decide +kernel
theorem dL_law_124 : decode cL_law 124 = .ok (.iconst 1, 1) := by decide +kernel
theorem dL_law_125 : decode cL_law 125 = .ok (.iadd, 1) := by decide +kernel
theorem dL_law_126 : decode cL_law 126 = .ok (.iaload, 1) := by decide +kernel
theorem dL_law_127 : decode cL_law 127 = .ok (.aload_n 0, 1) := by decide +kernel
theorem dL_law_128 : decode cL_law 128 = .ok (.iload 4, 2) := by decide +kernel
theorem dL_law_130 : decode cL_law 130 = .ok (.iconst 2, 1) := by decide +kernel
theorem dL_law_131 : decode cL_law 131 = .ok (.iadd, 1) := by decide +kernel
theorem dL_law_132 : decode cL_law 132 = .ok (.iaload, 1) := by decide +kernel
theorem dL_law_133 : decode cL_law 133 = .ok (.invokevirtual 25, 3) := by decide +kernel
theorem dL_law_136 : decode cL_law 136 = .ok (.aload_n 2, 1) := by decide +kernel
theorem dL_law_137 : decode cL_law 137 = .ok (.aload_n 0, 1) := by decide +kernel
theorem dL_law_138 : decode cL_law 138 = .ok (.iload 4, 2) := by decide +kernel
theorem dL_law_140 : decode cL_law 140 = .ok (.iconst 1, 1) := by decide +kernel
theorem dL_law_141 : decode cL_law 141 = .ok (.iadd, 1) := by decide +kernel
theorem dL_law_142 : decode cL_law 142 = .ok (.iaload, 1) := by decide +kernel
theorem dL_law_143 : decode cL_law 143 = .ok (.aload_n 0, 1) := by decide +kernel
theorem dL_law_144 : decode cL_law 144 = .ok (.iload 4, 2) := by decide +kernel
theorem dL_law_146 : decode cL_law 146 = .ok (.iconst 2, 1) := by decide +kernel
theorem dL_law_147 : decode cL_law 147 = .ok (.iadd, 1) := by decide +kernel
theorem dL_law_148 : decode cL_law 148 = .ok (.iaload, 1) := by decide +kernel
theorem dL_law_149 : decode cL_law 149 = .ok (.invokevirtual 29, 3) := by decide +kernel
theorem dL_law_152 : decode cL_law 152 = .ok (.if_icmp .eq 548, 3) := by decide +kernel
theorem dL_law_155 : decode cL_law 155 = .ok (.iconst 0, 1) := by decide +kernel
theorem dL_law_156 : decode cL_law 156 = .ok (.ireturn, 1) := by decide +kernel
theorem dL_law_157 : decode cL_law 157 = .ok (.aload_n 1, 1) := by decide +kernel
theorem dL_law_158 : decode cL_law 158 = .ok (.aload_n 0, 1) := by decide +kernel
theorem dL_law_159 : decode cL_law 159 = .ok (.iload 4, 2) := by decide +kernel
theorem dL_law_161 : decode cL_law 161 = .ok (.iconst 1, 1) := by decide +kernel
theorem dL_law_162 : decode cL_law 162 = .ok (.iadd, 1) := by decide +kernel
theorem dL_law_163 : decode cL_law 163 = .ok (.iaload, 1) := by decide +kernel
theorem dL_law_164 : decode cL_law 164 = .ok (.invokevirtual 30, 3) := by decide +kernel
theorem dL_law_167 : decode cL_law 167 = .ok (.aload_n 2, 1) := by decide +kernel
theorem dL_law_168 : decode cL_law 168 = .ok (.aload_n 0, 1) := by decide +kernel
theorem dL_law_169 : decode cL_law 169 = .ok (.iload 4, 2) := by decide +kernel
theorem dL_law_171 : decode cL_law 171 = .ok (.iconst 1, 1) := by decide +kernel
theorem dL_law_172 : decode cL_law 172 = .ok (.iadd, 1) := by decide +kernel
theorem dL_law_173 : decode cL_law 173 = .ok (.iaload, 1) := by decide +kernel
theorem dL_law_174 : decode cL_law 174 = .ok (.invokevirtual 34, 3) := by decide +kernel
theorem dL_law_177 : decode cL_law 177 = .ok (.if_icmp .eq 523, 3) := by decide +kernel
theorem dL_law_180 : decode cL_law 180 = .ok (.iconst 0, 1) := by decide +kernel
theorem dL_law_181 : decode cL_law 181 = .ok (.ireturn, 1) := by decide +kernel
theorem dL_law_182 : decode cL_law 182 = .ok (.aload_n 1, 1) := by decide +kernel
theorem dL_law_183 : decode cL_law 183 = .ok (.aload_n 0, 1) := by decide +kernel
theorem dL_law_184 : decode cL_law 184 = .ok (.iload 4, 2) := by decide +kernel
theorem dL_law_186 : decode cL_law 186 = .ok (.iconst 1, 1) := by decide +kernel
theorem dL_law_187 : decode cL_law 187 = .ok (.iadd, 1) := by decide +kernel
theorem dL_law_188 : decode cL_law 188 = .ok (.iaload, 1) := by decide +kernel
theorem dL_law_189 : decode cL_law 189 = .ok (.aload_n 0, 1) := by decide +kernel
theorem dL_law_190 : decode cL_law 190 = .ok (.iload 4, 2) := by decide +kernel
theorem dL_law_192 : decode cL_law 192 = .ok (.iconst 2, 1) := by decide +kernel
theorem dL_law_193 : decode cL_law 193 = .ok (.iadd, 1) := by decide +kernel
theorem dL_law_194 : decode cL_law 194 = .ok (.iaload, 1) := by decide +kernel
theorem dL_law_195 : decode cL_law 195 = .ok (.aload_n 0, 1) := by decide +kernel
theorem dL_law_196 : decode cL_law 196 = .ok (.iload 4, 2) := by decide +kernel
theorem dL_law_198 : decode cL_law 198 = .ok (.iconst 3, 1) := by decide +kernel
theorem dL_law_199 : decode cL_law 199 = .ok (.iadd, 1) := by decide +kernel
theorem dL_law_200 : decode cL_law 200 = .ok (.iaload, 1) := by decide +kernel
theorem dL_law_201 : decode cL_law 201 = .ok (.invokevirtual 35, 3) := by decide +kernel
theorem dL_law_204 : decode cL_law 204 = .ok (.aload_n 2, 1) := by decide +kernel
theorem dL_law_205 : decode cL_law 205 = .ok (.aload_n 0, 1) := by decide +kernel
theorem dL_law_206 : decode cL_law 206 = .ok (.iload 4, 2) := by decide +kernel
theorem dL_law_208 : decode cL_law 208 = .ok (.iconst 1, 1) := by decide +kernel
theorem dL_law_209 : decode cL_law 209 = .ok (.iadd, 1) := by decide +kernel
theorem dL_law_210 : decode cL_law 210 = .ok (.iaload, 1) := by decide +kernel
theorem dL_law_211 : decode cL_law 211 = .ok (.aload_n 0, 1) := by decide +kernel
theorem dL_law_212 : decode cL_law 212 = .ok (.iload 4, 2) := by decide +kernel
theorem dL_law_214 : decode cL_law 214 = .ok (.iconst 2, 1) := by decide +kernel
theorem dL_law_215 : decode cL_law 215 = .ok (.iadd, 1) := by decide +kernel
theorem dL_law_216 : decode cL_law 216 = .ok (.iaload, 1) := by decide +kernel
theorem dL_law_217 : decode cL_law 217 = .ok (.aload_n 0, 1) := by decide +kernel
theorem dL_law_218 : decode cL_law 218 = .ok (.iload 4, 2) := by decide +kernel
theorem dL_law_220 : decode cL_law 220 = .ok (.iconst 3, 1) := by decide +kernel
theorem dL_law_221 : decode cL_law 221 = .ok (.iadd, 1) := by decide +kernel
theorem dL_law_222 : decode cL_law 222 = .ok (.iaload, 1) := by decide +kernel
theorem dL_law_223 : decode cL_law 223 = .ok (.invokevirtual 38, 3) := by decide +kernel
theorem dL_law_226 : decode cL_law 226 = .ok (.if_icmp .eq 474, 3) := by decide +kernel
theorem dL_law_229 : decode cL_law 229 = .ok (.iconst 0, 1) := by decide +kernel
theorem dL_law_230 : decode cL_law 230 = .ok (.ireturn, 1) := by decide +kernel
theorem dL_law_231 : decode cL_law 231 = .ok (.aload_n 1, 1) := by decide +kernel
theorem dL_law_232 : decode cL_law 232 = .ok (.aload_n 0, 1) := by decide +kernel
theorem dL_law_233 : decode cL_law 233 = .ok (.iload 4, 2) := by decide +kernel
theorem dL_law_235 : decode cL_law 235 = .ok (.iconst 1, 1) := by decide +kernel
theorem dL_law_236 : decode cL_law 236 = .ok (.iadd, 1) := by decide +kernel
theorem dL_law_237 : decode cL_law 237 = .ok (.iaload, 1) := by decide +kernel
theorem dL_law_238 : decode cL_law 238 = .ok (.aload_n 0, 1) := by decide +kernel
theorem dL_law_239 : decode cL_law 239 = .ok (.iload 4, 2) := by decide +kernel
theorem dL_law_241 : decode cL_law 241 = .ok (.iconst 2, 1) := by decide +kernel
theorem dL_law_242 : decode cL_law 242 = .ok (.iadd, 1) := by decide +kernel
theorem dL_law_243 : decode cL_law 243 = .ok (.iaload, 1) := by decide +kernel
theorem dL_law_244 : decode cL_law 244 = .ok (.aload_n 0, 1) := by decide +kernel
theorem dL_law_245 : decode cL_law 245 = .ok (.iload 4, 2) := by decide +kernel
theorem dL_law_247 : decode cL_law 247 = .ok (.iconst 3, 1) := by decide +kernel
theorem dL_law_248 : decode cL_law 248 = .ok (.iadd, 1) := by decide +kernel
theorem dL_law_249 : decode cL_law 249 = .ok (.iaload, 1) := by decide +kernel
theorem dL_law_250 : decode cL_law 250 = .ok (.invokevirtual 39, 3) := by decide +kernel
theorem dL_law_253 : decode cL_law 253 = .ok (.aload_n 2, 1) := by decide +kernel
theorem dL_law_254 : decode cL_law 254 = .ok (.aload_n 0, 1) := by decide +kernel
theorem dL_law_255 : decode cL_law 255 = .ok (.iload 4, 2) := by decide +kernel
theorem dL_law_257 : decode cL_law 257 = .ok (.iconst 1, 1) := by decide +kernel
theorem dL_law_258 : decode cL_law 258 = .ok (.iadd, 1) := by decide +kernel
theorem dL_law_259 : decode cL_law 259 = .ok (.iaload, 1) := by decide +kernel
theorem dL_law_260 : decode cL_law 260 = .ok (.aload_n 0, 1) := by decide +kernel
theorem dL_law_261 : decode cL_law 261 = .ok (.iload 4, 2) := by decide +kernel
theorem dL_law_263 : decode cL_law 263 = .ok (.iconst 2, 1) := by decide +kernel
theorem dL_law_264 : decode cL_law 264 = .ok (.iadd, 1) := by decide +kernel
theorem dL_law_265 : decode cL_law 265 = .ok (.iaload, 1) := by decide +kernel
theorem dL_law_266 : decode cL_law 266 = .ok (.aload_n 0, 1) := by decide +kernel
theorem dL_law_267 : decode cL_law 267 = .ok (.iload 4, 2) := by decide +kernel
theorem dL_law_269 : decode cL_law 269 = .ok (.iconst 3, 1) := by decide +kernel
theorem dL_law_270 : decode cL_law 270 = .ok (.iadd, 1) := by decide +kernel
theorem dL_law_271 : decode cL_law 271 = .ok (.iaload, 1) := by decide +kernel
theorem dL_law_272 : decode cL_law 272 = .ok (.invokevirtual 42, 3) := by decide +kernel
theorem dL_law_275 : decode cL_law 275 = .ok (.if_icmp .eq 425, 3) := by decide +kernel
theorem dL_law_278 : decode cL_law 278 = .ok (.iconst 0, 1) := by decide +kernel
theorem dL_law_279 : decode cL_law 279 = .ok (.ireturn, 1) := by decide +kernel
theorem dL_law_280 : decode cL_law 280 = .ok (.aload_n 1, 1) := by decide +kernel
theorem dL_law_281 : decode cL_law 281 = .ok (.aload_n 0, 1) := by decide +kernel
theorem dL_law_282 : decode cL_law 282 = .ok (.iload 4, 2) := by decide +kernel
theorem dL_law_284 : decode cL_law 284 = .ok (.iconst 1, 1) := by decide +kernel
theorem dL_law_285 : decode cL_law 285 = .ok (.iadd, 1) := by decide +kernel
theorem dL_law_286 : decode cL_law 286 = .ok (.iaload, 1) := by decide +kernel
theorem dL_law_287 : decode cL_law 287 = .ok (.invokevirtual 43, 3) := by decide +kernel
theorem dL_law_290 : decode cL_law 290 = .ok (.aload_n 2, 1) := by decide +kernel
theorem dL_law_291 : decode cL_law 291 = .ok (.aload_n 0, 1) := by decide +kernel
theorem dL_law_292 : decode cL_law 292 = .ok (.iload 4, 2) := by decide +kernel
theorem dL_law_294 : decode cL_law 294 = .ok (.iconst 1, 1) := by decide +kernel
theorem dL_law_295 : decode cL_law 295 = .ok (.iadd, 1) := by decide +kernel
theorem dL_law_296 : decode cL_law 296 = .ok (.iaload, 1) := by decide +kernel
theorem dL_law_297 : decode cL_law 297 = .ok (.invokevirtual 46, 3) := by decide +kernel
theorem dL_law_300 : decode cL_law 300 = .ok (.if_icmp .eq 400, 3) := by decide +kernel
theorem dL_law_303 : decode cL_law 303 = .ok (.iconst 0, 1) := by decide +kernel
theorem dL_law_304 : decode cL_law 304 = .ok (.ireturn, 1) := by decide +kernel
theorem dL_law_305 : decode cL_law 305 = .ok (.aload_n 1, 1) := by decide +kernel
theorem dL_law_306 : decode cL_law 306 = .ok (.invokevirtual 47, 3) := by decide +kernel
theorem dL_law_309 : decode cL_law 309 = .ok (.aload_n 2, 1) := by decide +kernel
theorem dL_law_310 : decode cL_law 310 = .ok (.invokevirtual 51, 3) := by decide +kernel
theorem dL_law_313 : decode cL_law 313 = .ok (.if_icmp .eq 387, 3) := by decide +kernel
theorem dL_law_316 : decode cL_law 316 = .ok (.iconst 0, 1) := by decide +kernel
theorem dL_law_317 : decode cL_law 317 = .ok (.ireturn, 1) := by decide +kernel
theorem dL_law_318 : decode cL_law 318 = .ok (.aload_n 1, 1) := by decide +kernel
theorem dL_law_319 : decode cL_law 319 = .ok (.aload_n 0, 1) := by decide +kernel
theorem dL_law_320 : decode cL_law 320 = .ok (.iload 4, 2) := by decide +kernel
theorem dL_law_322 : decode cL_law 322 = .ok (.iconst 1, 1) := by decide +kernel
theorem dL_law_323 : decode cL_law 323 = .ok (.iadd, 1) := by decide +kernel
theorem dL_law_324 : decode cL_law 324 = .ok (.iaload, 1) := by decide +kernel
theorem dL_law_325 : decode cL_law 325 = .ok (.aload_n 0, 1) := by decide +kernel
theorem dL_law_326 : decode cL_law 326 = .ok (.iload 4, 2) := by decide +kernel
theorem dL_law_328 : decode cL_law 328 = .ok (.iconst 2, 1) := by decide +kernel
theorem dL_law_329 : decode cL_law 329 = .ok (.iadd, 1) := by decide +kernel
theorem dL_law_330 : decode cL_law 330 = .ok (.iaload, 1) := by decide +kernel
theorem dL_law_331 : decode cL_law 331 = .ok (.aload_n 0, 1) := by decide +kernel
theorem dL_law_332 : decode cL_law 332 = .ok (.iload 4, 2) := by decide +kernel
theorem dL_law_334 : decode cL_law 334 = .ok (.iconst 3, 1) := by decide +kernel
theorem dL_law_335 : decode cL_law 335 = .ok (.iadd, 1) := by decide +kernel
theorem dL_law_336 : decode cL_law 336 = .ok (.iaload, 1) := by decide +kernel
theorem dL_law_337 : decode cL_law 337 = .ok (.aload_n 3, 1) := by decide +kernel
theorem dL_law_338 : decode cL_law 338 = .ok (.invokestatic 52, 3) := by decide +kernel
theorem dL_law_341 : decode cL_law 341 = .ok (.istore 5, 2) := by decide +kernel
theorem dL_law_343 : decode cL_law 343 = .ok (.aload_n 2, 1) := by decide +kernel
theorem dL_law_344 : decode cL_law 344 = .ok (.aload_n 0, 1) := by decide +kernel
theorem dL_law_345 : decode cL_law 345 = .ok (.iload 4, 2) := by decide +kernel
theorem dL_law_347 : decode cL_law 347 = .ok (.iconst 1, 1) := by decide +kernel
theorem dL_law_348 : decode cL_law 348 = .ok (.iadd, 1) := by decide +kernel
theorem dL_law_349 : decode cL_law 349 = .ok (.iaload, 1) := by decide +kernel
theorem dL_law_350 : decode cL_law 350 = .ok (.aload_n 0, 1) := by decide +kernel
theorem dL_law_351 : decode cL_law 351 = .ok (.iload 4, 2) := by decide +kernel
theorem dL_law_353 : decode cL_law 353 = .ok (.iconst 2, 1) := by decide +kernel
theorem dL_law_354 : decode cL_law 354 = .ok (.iadd, 1) := by decide +kernel
theorem dL_law_355 : decode cL_law 355 = .ok (.iaload, 1) := by decide +kernel
theorem dL_law_356 : decode cL_law 356 = .ok (.aload_n 0, 1) := by decide +kernel
theorem dL_law_357 : decode cL_law 357 = .ok (.iload 4, 2) := by decide +kernel
theorem dL_law_359 : decode cL_law 359 = .ok (.iconst 3, 1) := by decide +kernel
theorem dL_law_360 : decode cL_law 360 = .ok (.iadd, 1) := by decide +kernel
theorem dL_law_361 : decode cL_law 361 = .ok (.iaload, 1) := by decide +kernel
theorem dL_law_362 : decode cL_law 362 = .ok (.invokevirtual 57, 3) := by decide +kernel
theorem dL_law_365 : decode cL_law 365 = .ok (.istore 6, 2) := by decide +kernel
theorem dL_law_367 : decode cL_law 367 = .ok (.aload_n 2, 1) := by decide +kernel
theorem dL_law_368 : decode cL_law 368 = .ok (.invokevirtual 58, 3) := by decide +kernel
theorem dL_law_371 : decode cL_law 371 = .ok (.iload 5, 2) := by decide +kernel
theorem dL_law_373 : decode cL_law 373 = .ok (.if_icmp .eq 5, 3) := by decide +kernel
theorem dL_law_376 : decode cL_law 376 = .ok (.iconst 0, 1) := by decide +kernel
theorem dL_law_377 : decode cL_law 377 = .ok (.ireturn, 1) := by decide +kernel
theorem dL_law_378 : decode cL_law 378 = .ok (.iload 5, 2) := by decide +kernel
theorem dL_law_380 : decode cL_law 380 = .ok (.ifCond .ne 15, 3) := by decide +kernel
theorem dL_law_383 : decode cL_law 383 = .ok (.aload_n 3, 1) := by decide +kernel
theorem dL_law_384 : decode cL_law 384 = .ok (.iconst 0, 1) := by decide +kernel
theorem dL_law_385 : decode cL_law 385 = .ok (.laload, 1) := by decide +kernel
theorem dL_law_386 : decode cL_law 386 = .ok (.iload 6, 2) := by decide +kernel
theorem dL_law_388 : decode cL_law 388 = .ok (.i2l, 1) := by decide +kernel
theorem dL_law_389 : decode cL_law 389 = .ok (.lcmp, 1) := by decide +kernel
theorem dL_law_390 : decode cL_law 390 = .ok (.ifCond .eq 5, 3) := by decide +kernel
theorem dL_law_393 : decode cL_law 393 = .ok (.iconst 0, 1) := by decide +kernel
theorem dL_law_394 : decode cL_law 394 = .ok (.ireturn, 1) := by decide +kernel
theorem dL_law_395 : decode cL_law 395 = .ok (.goto 305, 3) := by decide +kernel
theorem dL_law_398 : decode cL_law 398 = .ok (.aload_n 1, 1) := by decide +kernel
theorem dL_law_399 : decode cL_law 399 = .ok (.aload_n 0, 1) := by decide +kernel
theorem dL_law_400 : decode cL_law 400 = .ok (.iload 4, 2) := by decide +kernel
theorem dL_law_402 : decode cL_law 402 = .ok (.iconst 1, 1) := by decide +kernel
theorem dL_law_403 : decode cL_law 403 = .ok (.iadd, 1) := by decide +kernel
theorem dL_law_404 : decode cL_law 404 = .ok (.iaload, 1) := by decide +kernel
theorem dL_law_405 : decode cL_law 405 = .ok (.aload_n 0, 1) := by decide +kernel
theorem dL_law_406 : decode cL_law 406 = .ok (.iload 4, 2) := by decide +kernel
theorem dL_law_408 : decode cL_law 408 = .ok (.iconst 2, 1) := by decide +kernel
theorem dL_law_409 : decode cL_law 409 = .ok (.iadd, 1) := by decide +kernel
theorem dL_law_410 : decode cL_law 410 = .ok (.iaload, 1) := by decide +kernel
theorem dL_law_411 : decode cL_law 411 = .ok (.aload_n 0, 1) := by decide +kernel
theorem dL_law_412 : decode cL_law 412 = .ok (.iload 4, 2) := by decide +kernel
theorem dL_law_414 : decode cL_law 414 = .ok (.iconst 3, 1) := by decide +kernel
theorem dL_law_415 : decode cL_law 415 = .ok (.iadd, 1) := by decide +kernel
theorem dL_law_416 : decode cL_law 416 = .ok (.iaload, 1) := by decide +kernel
theorem dL_law_417 : decode cL_law 417 = .ok (.invokevirtual 61, 3) := by decide +kernel
theorem dL_law_420 : decode cL_law 420 = .ok (.aload_n 2, 1) := by decide +kernel
theorem dL_law_421 : decode cL_law 421 = .ok (.aload_n 0, 1) := by decide +kernel
theorem dL_law_422 : decode cL_law 422 = .ok (.iload 4, 2) := by decide +kernel
theorem dL_law_424 : decode cL_law 424 = .ok (.iconst 1, 1) := by decide +kernel
theorem dL_law_425 : decode cL_law 425 = .ok (.iadd, 1) := by decide +kernel
theorem dL_law_426 : decode cL_law 426 = .ok (.iaload, 1) := by decide +kernel
theorem dL_law_427 : decode cL_law 427 = .ok (.aload_n 0, 1) := by decide +kernel
theorem dL_law_428 : decode cL_law 428 = .ok (.iload 4, 2) := by decide +kernel
theorem dL_law_430 : decode cL_law 430 = .ok (.iconst 2, 1) := by decide +kernel
theorem dL_law_431 : decode cL_law 431 = .ok (.iadd, 1) := by decide +kernel
theorem dL_law_432 : decode cL_law 432 = .ok (.iaload, 1) := by decide +kernel
theorem dL_law_433 : decode cL_law 433 = .ok (.aload_n 0, 1) := by decide +kernel
theorem dL_law_434 : decode cL_law 434 = .ok (.iload 4, 2) := by decide +kernel
theorem dL_law_436 : decode cL_law 436 = .ok (.iconst 3, 1) := by decide +kernel
theorem dL_law_437 : decode cL_law 437 = .ok (.iadd, 1) := by decide +kernel
theorem dL_law_438 : decode cL_law 438 = .ok (.iaload, 1) := by decide +kernel
theorem dL_law_439 : decode cL_law 439 = .ok (.invokevirtual 64, 3) := by decide +kernel
theorem dL_law_442 : decode cL_law 442 = .ok (.if_icmp .eq 258, 3) := by decide +kernel
theorem dL_law_445 : decode cL_law 445 = .ok (.iconst 0, 1) := by decide +kernel
theorem dL_law_446 : decode cL_law 446 = .ok (.ireturn, 1) := by decide +kernel
theorem dL_law_447 : decode cL_law 447 = .ok (.aload_n 1, 1) := by decide +kernel
theorem dL_law_448 : decode cL_law 448 = .ok (.aload_n 0, 1) := by decide +kernel
theorem dL_law_449 : decode cL_law 449 = .ok (.iload 4, 2) := by decide +kernel
theorem dL_law_451 : decode cL_law 451 = .ok (.iconst 1, 1) := by decide +kernel
theorem dL_law_452 : decode cL_law 452 = .ok (.iadd, 1) := by decide +kernel
theorem dL_law_453 : decode cL_law 453 = .ok (.iaload, 1) := by decide +kernel
theorem dL_law_454 : decode cL_law 454 = .ok (.aload_n 0, 1) := by decide +kernel
theorem dL_law_455 : decode cL_law 455 = .ok (.iload 4, 2) := by decide +kernel
theorem dL_law_457 : decode cL_law 457 = .ok (.iconst 2, 1) := by decide +kernel
theorem dL_law_458 : decode cL_law 458 = .ok (.iadd, 1) := by decide +kernel
theorem dL_law_459 : decode cL_law 459 = .ok (.iaload, 1) := by decide +kernel
theorem dL_law_460 : decode cL_law 460 = .ok (.aload_n 0, 1) := by decide +kernel
theorem dL_law_461 : decode cL_law 461 = .ok (.iload 4, 2) := by decide +kernel
theorem dL_law_463 : decode cL_law 463 = .ok (.iconst 3, 1) := by decide +kernel
theorem dL_law_464 : decode cL_law 464 = .ok (.iadd, 1) := by decide +kernel
theorem dL_law_465 : decode cL_law 465 = .ok (.iaload, 1) := by decide +kernel
theorem dL_law_466 : decode cL_law 466 = .ok (.aload_n 0, 1) := by decide +kernel
theorem dL_law_467 : decode cL_law 467 = .ok (.iload 4, 2) := by decide +kernel
theorem dL_law_469 : decode cL_law 469 = .ok (.iconst 4, 1) := by decide +kernel
theorem dL_law_470 : decode cL_law 470 = .ok (.iadd, 1) := by decide +kernel
theorem dL_law_471 : decode cL_law 471 = .ok (.iaload, 1) := by decide +kernel
theorem dL_law_472 : decode cL_law 472 = .ok (.invokevirtual 65, 3) := by decide +kernel
theorem dL_law_475 : decode cL_law 475 = .ok (.aload_n 2, 1) := by decide +kernel
theorem dL_law_476 : decode cL_law 476 = .ok (.aload_n 0, 1) := by decide +kernel
theorem dL_law_477 : decode cL_law 477 = .ok (.iload 4, 2) := by decide +kernel
theorem dL_law_479 : decode cL_law 479 = .ok (.iconst 1, 1) := by decide +kernel
theorem dL_law_480 : decode cL_law 480 = .ok (.iadd, 1) := by decide +kernel
theorem dL_law_481 : decode cL_law 481 = .ok (.iaload, 1) := by decide +kernel
theorem dL_law_482 : decode cL_law 482 = .ok (.aload_n 0, 1) := by decide +kernel
theorem dL_law_483 : decode cL_law 483 = .ok (.iload 4, 2) := by decide +kernel
theorem dL_law_485 : decode cL_law 485 = .ok (.iconst 2, 1) := by decide +kernel
theorem dL_law_486 : decode cL_law 486 = .ok (.iadd, 1) := by decide +kernel
theorem dL_law_487 : decode cL_law 487 = .ok (.iaload, 1) := by decide +kernel
theorem dL_law_488 : decode cL_law 488 = .ok (.aload_n 0, 1) := by decide +kernel
theorem dL_law_489 : decode cL_law 489 = .ok (.iload 4, 2) := by decide +kernel
theorem dL_law_491 : decode cL_law 491 = .ok (.iconst 3, 1) := by decide +kernel
theorem dL_law_492 : decode cL_law 492 = .ok (.iadd, 1) := by decide +kernel
theorem dL_law_493 : decode cL_law 493 = .ok (.iaload, 1) := by decide +kernel
theorem dL_law_494 : decode cL_law 494 = .ok (.aload_n 0, 1) := by decide +kernel
theorem dL_law_495 : decode cL_law 495 = .ok (.iload 4, 2) := by decide +kernel
theorem dL_law_497 : decode cL_law 497 = .ok (.iconst 4, 1) := by decide +kernel
theorem dL_law_498 : decode cL_law 498 = .ok (.iadd, 1) := by decide +kernel
theorem dL_law_499 : decode cL_law 499 = .ok (.iaload, 1) := by decide +kernel
theorem dL_law_500 : decode cL_law 500 = .ok (.invokevirtual 69, 3) := by decide +kernel
theorem dL_law_503 : decode cL_law 503 = .ok (.if_icmp .eq 197, 3) := by decide +kernel
theorem dL_law_506 : decode cL_law 506 = .ok (.iconst 0, 1) := by decide +kernel
theorem dL_law_507 : decode cL_law 507 = .ok (.ireturn, 1) := by decide +kernel
theorem dL_law_508 : decode cL_law 508 = .ok (.aload_n 1, 1) := by decide +kernel
theorem dL_law_509 : decode cL_law 509 = .ok (.aload_n 0, 1) := by decide +kernel
theorem dL_law_510 : decode cL_law 510 = .ok (.iload 4, 2) := by decide +kernel
theorem dL_law_512 : decode cL_law 512 = .ok (.iconst 1, 1) := by decide +kernel
theorem dL_law_513 : decode cL_law 513 = .ok (.iadd, 1) := by decide +kernel
theorem dL_law_514 : decode cL_law 514 = .ok (.iaload, 1) := by decide +kernel
theorem dL_law_515 : decode cL_law 515 = .ok (.invokevirtual 70, 3) := by decide +kernel
theorem dL_law_518 : decode cL_law 518 = .ok (.aload_n 2, 1) := by decide +kernel
theorem dL_law_519 : decode cL_law 519 = .ok (.aload_n 0, 1) := by decide +kernel
theorem dL_law_520 : decode cL_law 520 = .ok (.iload 4, 2) := by decide +kernel
theorem dL_law_522 : decode cL_law 522 = .ok (.iconst 1, 1) := by decide +kernel
theorem dL_law_523 : decode cL_law 523 = .ok (.iadd, 1) := by decide +kernel
theorem dL_law_524 : decode cL_law 524 = .ok (.iaload, 1) := by decide +kernel
theorem dL_law_525 : decode cL_law 525 = .ok (.invokevirtual 73, 3) := by decide +kernel
theorem dL_law_528 : decode cL_law 528 = .ok (.if_icmp .eq 172, 3) := by decide +kernel
theorem dL_law_531 : decode cL_law 531 = .ok (.iconst 0, 1) := by decide +kernel
theorem dL_law_532 : decode cL_law 532 = .ok (.ireturn, 1) := by decide +kernel
theorem dL_law_533 : decode cL_law 533 = .ok (.aload_n 1, 1) := by decide +kernel
theorem dL_law_534 : decode cL_law 534 = .ok (.aload_n 0, 1) := by decide +kernel
theorem dL_law_535 : decode cL_law 535 = .ok (.iload 4, 2) := by decide +kernel
theorem dL_law_537 : decode cL_law 537 = .ok (.iconst 1, 1) := by decide +kernel
theorem dL_law_538 : decode cL_law 538 = .ok (.iadd, 1) := by decide +kernel
theorem dL_law_539 : decode cL_law 539 = .ok (.iaload, 1) := by decide +kernel
theorem dL_law_540 : decode cL_law 540 = .ok (.aload_n 0, 1) := by decide +kernel
theorem dL_law_541 : decode cL_law 541 = .ok (.iload 4, 2) := by decide +kernel
theorem dL_law_543 : decode cL_law 543 = .ok (.iconst 2, 1) := by decide +kernel
theorem dL_law_544 : decode cL_law 544 = .ok (.iadd, 1) := by decide +kernel
theorem dL_law_545 : decode cL_law 545 = .ok (.iaload, 1) := by decide +kernel
theorem dL_law_546 : decode cL_law 546 = .ok (.aload_n 3, 1) := by decide +kernel
theorem dL_law_547 : decode cL_law 547 = .ok (.invokestatic 74, 3) := by decide +kernel
theorem dL_law_550 : decode cL_law 550 = .ok (.istore 5, 2) := by decide +kernel
theorem dL_law_552 : decode cL_law 552 = .ok (.aload_n 2, 1) := by decide +kernel
theorem dL_law_553 : decode cL_law 553 = .ok (.aload_n 0, 1) := by decide +kernel
theorem dL_law_554 : decode cL_law 554 = .ok (.iload 4, 2) := by decide +kernel
theorem dL_law_556 : decode cL_law 556 = .ok (.iconst 1, 1) := by decide +kernel
theorem dL_law_557 : decode cL_law 557 = .ok (.iadd, 1) := by decide +kernel
theorem dL_law_558 : decode cL_law 558 = .ok (.iaload, 1) := by decide +kernel
theorem dL_law_559 : decode cL_law 559 = .ok (.aload_n 0, 1) := by decide +kernel
theorem dL_law_560 : decode cL_law 560 = .ok (.iload 4, 2) := by decide +kernel
theorem dL_law_562 : decode cL_law 562 = .ok (.iconst 2, 1) := by decide +kernel
theorem dL_law_563 : decode cL_law 563 = .ok (.iadd, 1) := by decide +kernel
theorem dL_law_564 : decode cL_law 564 = .ok (.iaload, 1) := by decide +kernel
theorem dL_law_565 : decode cL_law 565 = .ok (.invokevirtual 77, 3) := by decide +kernel
theorem dL_law_568 : decode cL_law 568 = .ok (.lstore 6, 2) := by decide +kernel
theorem dL_law_570 : decode cL_law 570 = .ok (.aload_n 2, 1) := by decide +kernel
theorem dL_law_571 : decode cL_law 571 = .ok (.invokevirtual 58, 3) := by decide +kernel
theorem dL_law_574 : decode cL_law 574 = .ok (.iload 5, 2) := by decide +kernel
theorem dL_law_576 : decode cL_law 576 = .ok (.if_icmp .eq 5, 3) := by decide +kernel
theorem dL_law_579 : decode cL_law 579 = .ok (.iconst 0, 1) := by decide +kernel
theorem dL_law_580 : decode cL_law 580 = .ok (.ireturn, 1) := by decide +kernel
theorem dL_law_581 : decode cL_law 581 = .ok (.iload 5, 2) := by decide +kernel
theorem dL_law_583 : decode cL_law 583 = .ok (.ifCond .ne 14, 3) := by decide +kernel
theorem dL_law_586 : decode cL_law 586 = .ok (.aload_n 3, 1) := by decide +kernel
theorem dL_law_587 : decode cL_law 587 = .ok (.iconst 0, 1) := by decide +kernel
theorem dL_law_588 : decode cL_law 588 = .ok (.laload, 1) := by decide +kernel
theorem dL_law_589 : decode cL_law 589 = .ok (.lload 6, 2) := by decide +kernel
theorem dL_law_591 : decode cL_law 591 = .ok (.lcmp, 1) := by decide +kernel
theorem dL_law_592 : decode cL_law 592 = .ok (.ifCond .eq 5, 3) := by decide +kernel
theorem dL_law_595 : decode cL_law 595 = .ok (.iconst 0, 1) := by decide +kernel
theorem dL_law_596 : decode cL_law 596 = .ok (.ireturn, 1) := by decide +kernel
theorem dL_law_597 : decode cL_law 597 = .ok (.goto 103, 3) := by decide +kernel
theorem dL_law_600 : decode cL_law 600 = .ok (.aload_n 1, 1) := by decide +kernel
theorem dL_law_601 : decode cL_law 601 = .ok (.invokevirtual 78, 3) := by decide +kernel
theorem dL_law_604 : decode cL_law 604 = .ok (.aload_n 2, 1) := by decide +kernel
theorem dL_law_605 : decode cL_law 605 = .ok (.invokevirtual 81, 3) := by decide +kernel
theorem dL_law_608 : decode cL_law 608 = .ok (.if_icmp .eq 92, 3) := by decide +kernel
theorem dL_law_611 : decode cL_law 611 = .ok (.iconst 0, 1) := by decide +kernel
theorem dL_law_612 : decode cL_law 612 = .ok (.ireturn, 1) := by decide +kernel
theorem dL_law_613 : decode cL_law 613 = .ok (.aload_n 1, 1) := by decide +kernel
theorem dL_law_614 : decode cL_law 614 = .ok (.aload_n 0, 1) := by decide +kernel
theorem dL_law_615 : decode cL_law 615 = .ok (.iload 4, 2) := by decide +kernel
theorem dL_law_617 : decode cL_law 617 = .ok (.iconst 1, 1) := by decide +kernel
theorem dL_law_618 : decode cL_law 618 = .ok (.iadd, 1) := by decide +kernel
theorem dL_law_619 : decode cL_law 619 = .ok (.iaload, 1) := by decide +kernel
theorem dL_law_620 : decode cL_law 620 = .ok (.invokevirtual 82, 3) := by decide +kernel
theorem dL_law_623 : decode cL_law 623 = .ok (.aload_n 2, 1) := by decide +kernel
theorem dL_law_624 : decode cL_law 624 = .ok (.aload_n 0, 1) := by decide +kernel
theorem dL_law_625 : decode cL_law 625 = .ok (.iload 4, 2) := by decide +kernel
theorem dL_law_627 : decode cL_law 627 = .ok (.iconst 1, 1) := by decide +kernel
theorem dL_law_628 : decode cL_law 628 = .ok (.iadd, 1) := by decide +kernel
theorem dL_law_629 : decode cL_law 629 = .ok (.iaload, 1) := by decide +kernel
theorem dL_law_630 : decode cL_law 630 = .ok (.invokevirtual 85, 3) := by decide +kernel
theorem dL_law_633 : decode cL_law 633 = .ok (.if_icmp .eq 67, 3) := by decide +kernel
theorem dL_law_636 : decode cL_law 636 = .ok (.iconst 0, 1) := by decide +kernel
theorem dL_law_637 : decode cL_law 637 = .ok (.ireturn, 1) := by decide +kernel
theorem dL_law_638 : decode cL_law 638 = .ok (.aload_n 1, 1) := by decide +kernel
theorem dL_law_639 : decode cL_law 639 = .ok (.invokevirtual 86, 3) := by decide +kernel
theorem dL_law_642 : decode cL_law 642 = .ok (.aload_n 2, 1) := by decide +kernel
theorem dL_law_643 : decode cL_law 643 = .ok (.invokevirtual 89, 3) := by decide +kernel
theorem dL_law_646 : decode cL_law 646 = .ok (.if_icmp .eq 54, 3) := by decide +kernel
theorem dL_law_649 : decode cL_law 649 = .ok (.iconst 0, 1) := by decide +kernel
theorem dL_law_650 : decode cL_law 650 = .ok (.ireturn, 1) := by decide +kernel
theorem dL_law_651 : decode cL_law 651 = .ok (.aload_n 1, 1) := by decide +kernel
theorem dL_law_652 : decode cL_law 652 = .ok (.invokevirtual 90, 3) := by decide +kernel
theorem dL_law_655 : decode cL_law 655 = .ok (.aload_n 2, 1) := by decide +kernel
theorem dL_law_656 : decode cL_law 656 = .ok (.invokevirtual 93, 3) := by decide +kernel
theorem dL_law_659 : decode cL_law 659 = .ok (.if_icmp .eq 41, 3) := by decide +kernel
theorem dL_law_662 : decode cL_law 662 = .ok (.iconst 0, 1) := by decide +kernel
theorem dL_law_663 : decode cL_law 663 = .ok (.ireturn, 1) := by decide +kernel
theorem dL_law_664 : decode cL_law 664 = .ok (.aload_n 1, 1) := by decide +kernel
theorem dL_law_665 : decode cL_law 665 = .ok (.aload_n 0, 1) := by decide +kernel
theorem dL_law_666 : decode cL_law 666 = .ok (.iload 4, 2) := by decide +kernel
theorem dL_law_668 : decode cL_law 668 = .ok (.iconst 1, 1) := by decide +kernel
theorem dL_law_669 : decode cL_law 669 = .ok (.iadd, 1) := by decide +kernel
theorem dL_law_670 : decode cL_law 670 = .ok (.iaload, 1) := by decide +kernel
theorem dL_law_671 : decode cL_law 671 = .ok (.invokevirtual 94, 3) := by decide +kernel
theorem dL_law_674 : decode cL_law 674 = .ok (.aload_n 2, 1) := by decide +kernel
theorem dL_law_675 : decode cL_law 675 = .ok (.aload_n 0, 1) := by decide +kernel
theorem dL_law_676 : decode cL_law 676 = .ok (.iload 4, 2) := by decide +kernel
theorem dL_law_678 : decode cL_law 678 = .ok (.iconst 1, 1) := by decide +kernel
theorem dL_law_679 : decode cL_law 679 = .ok (.iadd, 1) := by decide +kernel
theorem dL_law_680 : decode cL_law 680 = .ok (.iaload, 1) := by decide +kernel
theorem dL_law_681 : decode cL_law 681 = .ok (.invokevirtual 97, 3) := by decide +kernel
theorem dL_law_684 : decode cL_law 684 = .ok (.if_icmp .eq 16, 3) := by decide +kernel
theorem dL_law_687 : decode cL_law 687 = .ok (.iconst 0, 1) := by decide +kernel
theorem dL_law_688 : decode cL_law 688 = .ok (.ireturn, 1) := by decide +kernel
theorem dL_law_689 : decode cL_law 689 = .ok (.aload_n 1, 1) := by decide +kernel
theorem dL_law_690 : decode cL_law 690 = .ok (.invokevirtual 98, 3) := by decide +kernel
theorem dL_law_693 : decode cL_law 693 = .ok (.aload_n 2, 1) := by decide +kernel
theorem dL_law_694 : decode cL_law 694 = .ok (.invokevirtual 101, 3) := by decide +kernel
theorem dL_law_697 : decode cL_law 697 = .ok (.goto 3, 3) := by decide +kernel
theorem dL_law_700 : decode cL_law 700 = .ok (.iinc 4 5, 3) := by decide +kernel
theorem dL_law_703 : decode cL_law 703 = .ok (.goto (-680), 3) := by decide +kernel
theorem dL_law_706 : decode cL_law 706 = .ok (.iconst 1, 1) := by decide +kernel
theorem dL_law_707 : decode cL_law 707 = .ok (.ireturn, 1) := by decide +kernel
end
section
/-! THE ABSTRACT MACHINE: values are whole numbers without a bound and addresses counted from a base; the heap is three functions over a fixed layout -/
abbrev AwV : Type := Int ⊕ Int ⊕ Option Nat
abbrev zi (x : Int) : AwV := .inl x
abbrev zl (x : Int) : AwV := .inr (.inl x)
abbrev zq (r : Option Nat) : AwV := .inr (.inr r)
abbrev zr (a : Nat) : AwV := .inr (.inr (some a))
def z_rf (b : Nat) : Option Nat → Value
  | none => .null
  | some a => .ref (b + a)
def z_cv (b : Nat) : AwV → Value
  | .inl x => .int (Int32.ofInt x)
  | .inr (.inl x) => .long (Int64.ofInt x)
  | .inr (.inr r) => z_rf b r
abbrev AwI : Type := Nat → Nat → Int
abbrev AwR : Type := Nat → Nat → Option Nat
def z_up {α : Type} (f : Nat → Nat → α) (a k : Nat) (x : α) : Nat → Nat → α := fun a' k' => if a' = a ∧ k' = k then x else f a' k'
theorem z_up_s {α : Type} (f : Nat → Nat → α) (a k : Nat) (x : α) : z_up f a k x a k = x := if_pos ⟨rfl, rfl⟩
theorem z_up_a {α : Type} (f : Nat → Nat → α) {a k : Nat} (x : α) {a' k' : Nat} (h : a' ≠ a) : z_up f a k x a' k' = f a' k' := if_neg (fun q => h q.1)
theorem z_up_k {α : Type} (f : Nat → Nat → α) {a k : Nat} (x : α) {a' k' : Nat} (h : k' ≠ k) : z_up f a k x a' k' = f a' k' := if_neg (fun q => h q.2)
/-- the layout: cells 0 .. 254, by the order in which the law makes them -/
def z_tA : List (Nat × Nat) := [(18, 7), (16, 7), (0, 8), (0, 8), (1, 8), (3, 10), (0, 8), (0, 8), (0, 8), (0, 8), (0, 8), (0, 8), (0, 8), (0, 8), (0, 8), (0, 8), (0, 10), (15, 4), (2, 41)]
def z_tC : List (Nat × Nat) := [(14, 9), (0, 8), (0, 10), (0, 8), (0, 8)]
def z_tB : List (Nat × Nat) := [(17, 4), (0, 8), (13, 8), (0, 8), (0, 8), (0, 8), (0, 65), (12, 4), (0, 8), (10, 1), (11, 3), (0, 8), (0, 10), (19, 25), (0, 8), (0, 8), (1, 8), (0, 10), (0, 80), (1, 320), (1, 40), (0, 40), (0, 40), (0, 1080), (1, 8), (0, 27), (0, 8), (0, 8), (0, 8), (0, 8), (1, 1)]
def z_sh (a : Nat) : Nat × Nat := if a < 19 then z_tA.getD a (0, 0) else if a < 224 then z_tC.getD ((a - 19) % 5) (0, 0) else z_tB.getD (a - 224) (0, 0)
/-- number of fields of class c; kinds of the fields: 0 int, 1 long, 2 reference -/
def z_cn (c : Nat) : Nat := ([1, 3, 4, 8, 9, 4, 7, 4, 7, 25] : List Nat).getD c 0
def z_ft : List (List Nat) := [[2], [2, 2, 2], [2, 2, 2, 0], [2, 2, 2, 2, 2, 2, 0, 0], [2, 2, 2, 2, 0, 0, 0, 0, 0], [2, 0, 0, 2], [2, 2, 2, 2, 2, 0, 0], [2, 2, 2, 0], [2, 2, 2, 2, 2, 2, 2], [0, 2, 2, 2, 0, 2, 2, 0, 2, 2, 2, 2, 2, 0, 0, 0, 2, 1, 2, 2, 2, 2, 0, 0, 2]]
def z_fk (c k : Nat) : Nat := (z_ft.getD c []).getD k 0
def z_rd (I J : AwI) (R : AwR) (a kd k : Nat) : AwV := match kd with
  | 0 => zi (I a k)
  | 1 => zl (J a k)
  | _ => zq (R a k)
theorem z_rd_up (I J : AwI) (R : AwR) (a kd k a' k' : Nat) (h : a' ≠ a) (x : Int) : z_rd (z_up I a k x) J R a' kd k' = z_rd I J R a' kd k' ∧ z_rd I (z_up J a k x) R a' kd k' = z_rd I J R a' kd k' := by
  unfold z_rd
  rw [z_up_a _ _ h, z_up_a _ _ h]
  exact ⟨rfl, rfl⟩
/-- where the base is, the classes' numbers and slots, the array classes -/
abbrev ZG : Type := va_G × (Nat → ClassId) × Nat
def z_at (G : ZG) (I J : AwI) (R : AwR) (H : Heap) (a : Nat) : Prop :=
  (∀ n, z_sh a = (0, n) → H[G.2.2 + a]? = some (arrV (G.2.1 0) n (fun j => .int (Int32.ofInt (I a j))))) ∧
  (∀ n, z_sh a = (1, n) → H[G.2.2 + a]? = some (arrV (G.2.1 1) n (fun j => .long (Int64.ofInt (J a j))))) ∧
  (∀ n, z_sh a = (2, n) → H[G.2.2 + a]? = some (arrV (G.2.1 2) n (fun j => z_rf G.2.2 (R a j)))) ∧
  (∀ n, z_sh a = (3, n) → H[G.2.2 + a]? = some (arrV (G.2.1 3) n (fun j => z_rf G.2.2 (R a j)))) ∧
  (∀ c n, z_sh a = (c + 10, n) → t_OB (G.2.2 + a) (G.1.1 c) n (G.1.2 c) H (fun j => z_cv G.2.2 (z_rd I J R a (z_fk c j) j)))
def z_Rl (G : ZG) (sz : Nat) (I J : AwI) (R : AwR) (H : Heap) : Prop := (sz < 255 → H.size = G.2.2 + sz) ∧ G.2.2 + sz ≤ H.size ∧ ∀ a, a < sz → z_at G I J R H a
/-- the words that every method has -/
def z_tb : List Cond := lw_tbl.filter goodWord
def z_nl : List Cond := [.methodLinkNest "CutProofs" 9 ⟨"CutProofs$Model", "<init>", "()V"⟩ "CutProofs", .methodLinkNest "CutProofs$Checker" 101 ⟨"CutProofs", "isIn", "(II)Z"⟩ "CutProofs", .methodLinkNest "CutProofs$CliqueSearch" 54 ⟨"CutProofs", "isIn", "(II)Z"⟩ "CutProofs", .methodLinkNest "CutProofs$CoverSearch" 80 ⟨"CutProofs", "isIn", "(II)Z"⟩ "CutProofs", .methodLinkNest "CutProofs$CutList" 25 ⟨"CutProofs$Cut", "<init>", "()V"⟩ "CutProofs", .methodLinkNest "CutProofs$RoundingSearch" 50 ⟨"CutProofs", "isIn", "(II)Z"⟩ "CutProofs"]
def z_ty (G : ZG) : List (ClassId × FieldType) := [(G.2.1 0, .int), (G.2.1 1, .long), (G.2.1 2, .object "CutProofs$Cut"), (G.2.1 3, .array .int)]
def z_K (G : ZG) (U : State) : Prop := va_K G.1 vwCl (z_ty G) U ∧ ∀ w ∈ z_nl, va_Nw w U
theorem z_nl_M : ∀ w ∈ z_nl, ∃ a i x h, w = .methodLinkNest a i x h := by
  intro w hw
  unfold z_nl at hw
  simp only [List.mem_cons, List.not_mem_nil, or_false] at hw
  rcases hw with h | h | h | h | h | h <;> exact ⟨_, _, _, _, h⟩
theorem z_K.moved {G : ZG} {s U : State} (hW : s.WarmedH U.vm) (h : z_K G s) : z_K G U := by
  refine ⟨va_K.moved hW.alike h.1, fun w hw => ?_⟩
  obtain ⟨a, i, x, q, rfl⟩ := z_nl_M w hw
  exact va_Nw.warmM hW (h.2 _ hw)
theorem z_K.blind {G : ZG} {U : State} {g : JFrame} {mk : MethodId} {a : Array Value} (h : z_K G U) : z_K G (U.calling g mk a) := by
  refine ⟨va_K.moved (u := U) (U := U.calling g mk a) (Vm.Alike.refl U.vm) h.1, fun w hw => ?_⟩
  obtain ⟨a, i, x, q, rfl⟩ := z_nl_M w hw
  exact va_Nw.same (w := .methodLinkNest a i x q) rfl (u := U) rfl (h.2 _ hw)
/-- locals -/
def z_Lo (b : Nat) (ls : Array Slot) (nL : Nat) (lv : List (Option AwV)) : Prop := lv.length = nL ∧ ls.size = nL ∧ lv_wf ls ∧ ∀ (i : Nat) (v : AwV), lv[i]? = some (some v) → ls[i]? = some (.val (z_cv b v))
def z_kl1 (lv : List (Option AwV)) (j : Nat) : List (Option AwV) := match lv[j]? with
  | some (some (.inr (.inl _))) => lv.set j none
  | _ => lv
def z_kl (lv : List (Option AwV)) : Nat → List (Option AwV)
  | 0 => lv
  | j + 1 => z_kl1 lv j
def z_st (lv : List (Option AwV)) (i : Nat) (v : AwV) : List (Option AwV) := (z_kl lv i).set i (some v)
def z_st2 (lv : List (Option AwV)) (i : Nat) (v : AwV) : List (Option AwV) := (z_st lv i v).set (i + 1) none
theorem z_kl_len (lv : List (Option AwV)) (i : Nat) : (z_kl lv i).length = lv.length := by
  cases i with
  | zero => rfl
  | succ j => show (z_kl1 lv j).length = _; unfold z_kl1; split <;> simp
theorem z_cat (b : Nat) (v : AwV) : (z_cv b v).category = 2 ↔ ∃ x, v = zl x := by
  rcases v with x | x | r
  · simp [z_cv, Value.category]
  · simp [z_cv, Value.category]
  · cases r <;> simp [z_cv, z_rf, Value.category]
theorem z_kl_get {lv : List (Option AwV)} {i j : Nat} {v : AwV} (h : (z_kl lv i)[j]? = some (some v)) : lv[j]? = some (some v) ∧ (j + 1 = i → ∀ x, v ≠ zl x) := by
  cases i with
  | zero => exact ⟨h, fun q => by omega⟩
  | succ k =>
    replace h : (z_kl1 lv k)[j]? = some (some v) := h
    unfold z_kl1 at h
    split at h
    · rename_i y hy
      by_cases hj : j = k
      · subst hj
        rw [List.getElem?_set] at h
        simp at h
      · rw [List.getElem?_set_ne (fun q => hj q.symm)] at h
        exact ⟨h, fun q => by omega⟩
    · rename_i hno
      refine ⟨h, fun q x hx => ?_⟩
      have hjk : j = k := by omega
      subst hjk
      exact hno x (by rw [h, hx])
theorem z_Lo.has {b nL : Nat} {ls : Array Slot} {lv : List (Option AwV)} (h : z_Lo b ls nL lv) : lv_has ls nL ((List.range lv.length).filterMap (fun i => match lv[i]? with | some (some v) => some (i, z_cv b v) | _ => none)) := by
  refine ⟨h.2.1, h.2.2.1, fun q hq => ?_⟩
  obtain ⟨i, -, hi⟩ := List.mem_filterMap.mp hq
  split at hi
  · rename_i v hv
    cases hi
    exact h.2.2.2 i v hv
  · cases hi
theorem z_Lo.in {b nL : Nat} {lv : List (Option AwV)} {i : Nat} {v : AwV} (h : lv[i]? = some (some v)) : (i, z_cv b v) ∈ (List.range lv.length).filterMap (fun i => match lv[i]? with | some (some v) => some (i, z_cv b v) | _ => none) := by
  refine List.mem_filterMap.mpr ⟨i, List.mem_range.mpr (List.getElem?_eq_some_iff.mp h).1, ?_⟩
  rw [h]
theorem z_Lo.st {b nL : Nat} {ls ls' : Array Slot} {lv : List (Option AwV)} {i : Nat} {v : AwV} (h : z_Lo b ls nL lv) (h' : lv_has ls' nL ((i, z_cv b v) :: ((List.range lv.length).filterMap (fun i => match lv[i]? with | some (some v) => some (i, z_cv b v) | _ => none)).filter (fun q => !(q.1 == i) && !(q.1 + 1 == i && q.2.category == 2)))) : z_Lo b ls' nL (z_st lv i v) := by
  refine ⟨by unfold z_st; rw [List.length_set, z_kl_len]; exact h.1, h'.1, h'.2.1, fun j w hj => ?_⟩
  unfold z_st at hj
  by_cases e : j = i
  · subst e
    rw [List.getElem?_set] at hj
    simp only [if_true] at hj
    split at hj
    · cases hj
      exact h'.2.2 (j, z_cv b v) List.mem_cons_self
    · cases hj
  · rw [List.getElem?_set_ne (fun q => e q.symm)] at hj
    obtain ⟨h1, h2⟩ := z_kl_get hj
    refine h'.2.2 (j, z_cv b w) (List.mem_cons_of_mem _ (List.mem_filter.mpr ⟨z_Lo.in (nL := nL) h1, ?_⟩))
    by_cases e2 : j + 1 = i
    · have h3 : ¬ (z_cv b w).category = 2 := fun q => by
        obtain ⟨x, hx⟩ := (z_cat b w).mp q
        exact h2 e2 x hx
      simp [e, h3]
    · simp [e, e2]
theorem z_Lo.st2 {b nL : Nat} {ls ls' : Array Slot} {lv : List (Option AwV)} {i : Nat} {v : AwV} (h : z_Lo b ls nL lv) (h' : lv_has ls' nL ((i, z_cv b v) :: ((List.range lv.length).filterMap (fun i => match lv[i]? with | some (some v) => some (i, z_cv b v) | _ => none)).filter (fun q => !(q.1 == i) && (!(q.1 == i + 1) && !(q.1 + 1 == i && q.2.category == 2))))) : z_Lo b ls' nL (z_st2 lv i v) := by
  refine ⟨by unfold z_st2 z_st; rw [List.length_set, List.length_set, z_kl_len]; exact h.1, h'.1, h'.2.1, fun j w hj => ?_⟩
  unfold z_st2 at hj
  by_cases e1 : j = i + 1
  · subst e1
    rw [List.getElem?_set] at hj
    simp only [if_true] at hj
    split at hj <;> cases hj
  rw [List.getElem?_set_ne (fun q => e1 q.symm)] at hj
  unfold z_st at hj
  by_cases e : j = i
  · subst e
    rw [List.getElem?_set] at hj
    simp only [if_true] at hj
    split at hj
    · cases hj
      exact h'.2.2 (j, z_cv b v) List.mem_cons_self
    · cases hj
  · rw [List.getElem?_set_ne (fun q => e q.symm)] at hj
    obtain ⟨h1, h2⟩ := z_kl_get hj
    refine h'.2.2 (j, z_cv b w) (List.mem_cons_of_mem _ (List.mem_filter.mpr ⟨z_Lo.in (nL := nL) h1, ?_⟩))
    by_cases e2 : j + 1 = i
    · have h3 : ¬ (z_cv b w).category = 2 := fun q => by
        obtain ⟨x, hx⟩ := (z_cat b w).mp q
        exact h2 e2 x hx
      simp [e, e1, h3]
    · simp [e, e1, e2]
def z_en1 (args : List AwV) : List (Option AwV) := args.flatMap fun v => match v with
  | .inr (.inl x) => [some (zl x), none]
  | v => [some v]
def z_en (args : List AwV) (nL : Nat) : List (Option AwV) := z_en1 args ++ List.replicate (nL - (z_en1 args).length) none
theorem z_en1_in (b : Nat) : ∀ (args : List AwV) (k i : Nat) (v : AwV), (z_en1 args)[i]? = some (some v) → (k + i, z_cv b v) ∈ lv_args k (args.map (z_cv b)) := by
  intro args
  induction args with
  | nil => intro k i v h; simp [z_en1] at h
  | cons w ws ih =>
    intro k i v h
    rcases w with x | x | r
    · have e : z_en1 (Sum.inl x :: ws) = some (zi x) :: z_en1 ws := rfl
      rw [e] at h
      cases i with
      | zero => cases h; exact List.mem_cons_self
      | succ j =>
        have h1 := ih (k + 1) j v h
        rw [show k + (j + 1) = k + 1 + j by omega]
        exact List.mem_cons_of_mem _ h1
    · have e : z_en1 (Sum.inr (Sum.inl x) :: ws) = some (zl x) :: none :: z_en1 ws := rfl
      rw [e] at h
      cases i with
      | zero => cases h; exact List.mem_cons_self
      | succ j =>
        cases j with
        | zero => cases h
        | succ j =>
          have h1 := ih (k + 2) j v h
          rw [show k + (j + 1 + 1) = k + 2 + j by omega]
          exact List.mem_cons_of_mem _ h1
    · have e : z_en1 (Sum.inr (Sum.inr r) :: ws) = some (zq r) :: z_en1 ws := rfl
      rw [e] at h
      cases i with
      | zero => cases h; exact List.mem_cons_self
      | succ j =>
        have h1 := ih (k + 1) j v h
        rw [show k + (j + 1) = k + 1 + j by omega]
        cases r <;> exact List.mem_cons_of_mem _ h1
theorem z_en1_len (b : Nat) (args : List AwV) : (lg_sl (args.map (z_cv b))).length = (z_en1 args).length := by
  induction args with
  | nil => rfl
  | cons w ws ih =>
    have e1 : lg_sl ((w :: ws).map (z_cv b)) = (if (z_cv b w).category = 2 then [.val (z_cv b w), .second] else [.val (z_cv b w)]) ++ lg_sl (ws.map (z_cv b)) := rfl
    rw [e1]
    rcases w with x | x | r
    · show _ = (some (zi x) :: z_en1 ws).length
      simp [z_cv, Value.category, ih]
    · show _ = (some (zl x) :: none :: z_en1 ws).length
      simp [z_cv, Value.category, ih]
    · show _ = (some (zq r) :: z_en1 ws).length
      cases r <;> simp [z_cv, z_rf, Value.category, ih]
theorem z_en_Lo (b : Nat) (args : List AwV) (nL : Nat) (h : (z_en1 args).length ≤ nL) : z_Lo b ((lg_sl (args.map (z_cv b)) ++ List.replicate (nL - (lg_sl (args.map (z_cv b))).length) Slot.unset).toArray) nL (z_en args nL) := by
  have h1 := lv_entry (args.map (z_cv b)) (n := nL) (by rw [z_en1_len]; exact h)
  refine ⟨by unfold z_en; simp; omega, h1.1, h1.2.1, fun i v hi => ?_⟩
  have h2 : (z_en1 args)[i]? = some (some v) := by
    unfold z_en at hi
    by_cases hl : i < (z_en1 args).length
    · rw [List.getElem?_append_left hl] at hi; exact hi
    · rw [List.getElem?_append_right (by omega), List.getElem?_replicate] at hi
      split at hi <;> cases hi
  have h3 := z_en1_in b args 0 i v h2
  rw [Nat.zero_add] at h3
  exact h1.2.2 _ h3
/-- a method: its name, code, locals, answer's type, room -/
abbrev ZD : Type := MethodName × ByteArray × Nat × Option FieldType × Room
abbrev ZF : Type := MethodName × ByteArray × Nat × Option FieldType × Room × (ZG → Array Value → State → List Frame → State → Prop)
def z_X (F : ZF) (p : Program) (s : State) (m : MethodId) (args : Array Value) (meth : Method) (c : Code) (G : ZG) : Prop :=
  p.tables.exec = Jvm.exec ∧ c.code = F.2.1 ∧ c.maxLocals = F.2.2.1 ∧ meth.sig.returnType = F.2.2.2.1 ∧ meth.locks = false ∧ s.vm.findClass F.1.cls = some m.cls ∧ (∀ w ∈ z_tb, w.before args s = true) ∧ z_K G s ∧ meth.name = F.1.name
def AW (F : ZF) (cells slots sz pc : Nat) (lv : List (Option AwV)) (st : List AwV) (I J : AwI) (R : AwR) : Prop :=
  ∀ (p : Program) (l : Launch) (e : Env) (s : State) (m : MethodId) (args : Array Value) (below : List Frame) (meth : Method) (c : Code) (H : Heap) (locs : List Loc) (ls : Array Slot) (G : ZG),
    z_X F p s m args meth c G → z_Rl G sz I J R H → z_Lo G.2.2 ls F.2.2.1 lv → va_S (fun q => G.2.2 ≤ q) s.heap H locs →
    W p l e F.2.2.2.2.1 s m args below meth c H locs cells slots (F.2.2.2.2.2 G args s below) (F0 m pc ls (st.map (z_cv G.2.2)))
abbrev ZQ : Type := Option AwV → Nat → AwI → AwI → AwR → Prop
def z_Qc (G : ZG) (Q : ZQ) : Array Value → State → Outcome → State → Prop := fun _ st oc t => (∃ (r : Option AwV) (sz : Nat) (I J : AwI) (R : AwR), oc = .returned (r.map (z_cv G.2.2)) ∧ Q r sz I J R ∧ z_Rl G sz I J R t.heap) ∧ va_F (fun q => G.2.2 ≤ q) st t
def z_Pc (G : ZG) (as : List AwV) (sz : Nat) (I J : AwI) (R : AwR) : Array Value → State → Prop := fun v U => v = (as.map (z_cv G.2.2)).toArray ∧ z_K G U ∧ z_Rl G sz I J R U.heap
def z_ws (d : ZD) : List Cond := Cond.code d.1 d.2.1 d.2.2.1 d.2.2.2.1 :: z_tb
def CT (d : ZD) (as : List AwV) (sz : Nat) (I J : AwI) (R : AwR) (Q : ZQ) : Prop :=
  ∀ (l : Launch) (G : ZG), Met l d.1 (z_ws d) d.2.2.2.2 (z_Pc G as sz I J R) (z_Qc G Q) d.2.2.2.2.cells d.2.2.2.2.slots (fun q => G.2.2 ≤ q)
def FM (d : ZD) (Q : ZQ) : ZF := (d.1, d.2.1, d.2.2.1, d.2.2.2.1, d.2.2.2.2, fun G args s below => MQ below (z_Qc G Q) args s d.2.2.2.2.cells d.2.2.2.2.slots (fun q => G.2.2 ≤ q))
theorem CT.of {d : ZD} {as : List AwV} {sz : Nat} {I J : AwI} {R : AwR} {Q : ZQ} (hy : plainName d.1.cls = true) (hn : (z_en1 as).length ≤ d.2.2.1) (h : AW (FM d Q) 0 0 sz 0 (z_en as d.2.2.1) [] I J R) : CT d as sz I J R Q := by
  intro l G
  refine Met.ofW (cc := d.2.1) (maxL := d.2.2.1) (ret := d.2.2.2.1) hy rfl ?_
  intro p e s m args below meth c s₁ B hml hv
  obtain ⟨rfl, hK, hRl⟩ := hv
  rw [lg_entry_eq]
  have hts := atoms_spec (ws := z_ws d) B.pre
  exact h p l e s m _ below meth c s.heap [] _ G ⟨B.exec, B.bytes, hml, B.returns, B.notSynchronized, findClass_of_methodNamed B.named, fun w hw => hts w (List.mem_cons_of_mem _ hw), hK, (name_of_methodNamed B.named B.method).1⟩ hRl (z_en_Lo _ as d.2.2.1 hn) va_S.rf
theorem CT.mono {d : ZD} {as : List AwV} {sz : Nat} {I J : AwI} {R : AwR} {Q Q' : ZQ} (h : CT d as sz I J R Q) (hq : ∀ r sz I J R, Q r sz I J R → Q' r sz I J R) : CT d as sz I J R Q' := by
  intro l G p e ha hc hk s m args below hf happ hpre hK
  obtain ⟨k, o, h1, h2, h3, ⟨⟨r, sz2, I2, J2, R2, e1, e2, e3⟩, e4⟩, h5⟩ := h l G p e ha hc hk s m args below hf happ hpre hK
  exact ⟨k, o, h1, h2, h3, ⟨⟨r, sz2, I2, J2, R2, e1, hq _ _ _ _ _ e2, e3⟩, e4⟩, h5⟩
end
section
theorem i32le {a b : Int} (ha : -2147483648 ≤ a ∧ a ≤ 2147483647) (hb : -2147483648 ≤ b ∧ b ≤ 2147483647) : Int32.ofInt a ≤ Int32.ofInt b ↔ a ≤ b := Int32.ofInt_le_iff_le ha.1 ha.2 hb.1 hb.2
theorem i32lt {a b : Int} (ha : -2147483648 ≤ a ∧ a ≤ 2147483647) (hb : -2147483648 ≤ b ∧ b ≤ 2147483647) : Int32.ofInt a < Int32.ofInt b ↔ a < b := Int32.ofInt_lt_iff_lt ha.1 ha.2 hb.1 hb.2
theorem i32eq {a b : Int} (ha : -2147483648 ≤ a ∧ a ≤ 2147483647) (hb : -2147483648 ≤ b ∧ b ≤ 2147483647) : Int32.ofInt a = Int32.ofInt b ↔ a = b := by
  constructor
  · intro h
    have h1 := (i32le ha hb).mp (Int32.le_of_eq h)
    have h2 := (i32le hb ha).mp (Int32.le_of_eq h.symm)
    omega
  · intro h; rw [h]
theorem i64le {a b : Int} (ha : -9223372036854775808 ≤ a ∧ a ≤ 9223372036854775807) (hb : -9223372036854775808 ≤ b ∧ b ≤ 9223372036854775807) : Int64.ofInt a ≤ Int64.ofInt b ↔ a ≤ b := Int64.ofInt_le_iff_le ha.1 ha.2 hb.1 hb.2
theorem i64lt {a b : Int} (ha : -9223372036854775808 ≤ a ∧ a ≤ 9223372036854775807) (hb : -9223372036854775808 ≤ b ∧ b ≤ 9223372036854775807) : Int64.ofInt a < Int64.ofInt b ↔ a < b := Int64.ofInt_lt_iff_lt ha.1 ha.2 hb.1 hb.2
theorem i64eq {a b : Int} (ha : -9223372036854775808 ≤ a ∧ a ≤ 9223372036854775807) (hb : -9223372036854775808 ≤ b ∧ b ≤ 9223372036854775807) : Int64.ofInt a = Int64.ofInt b ↔ a = b := by
  constructor
  · intro h
    have h1 := (i64le ha hb).mp (Int64.le_of_eq h)
    have h2 := (i64le hb ha).mp (Int64.le_of_eq h.symm)
    omega
  · intro h; rw [h]
theorem i32cl {i : Int} (h : 0 ≤ i ∧ i ≤ 2147483647) : (Int32.ofInt i).toNatClampNeg = i.toNat := by
  have h1 : (Int32.ofInt i).toInt = i := Int32.toInt_ofInt_of_le (by omega) (by omega)
  show (Int32.ofInt i).toInt.toNat = _
  rw [h1]
theorem i32in {i : Int} {n : Nat} (h : 0 ≤ i ∧ i < (n : Int)) (hn : n ≤ 2147483647) : ¬ (Int32.ofInt i < 0 ∨ n ≤ (Int32.ofInt i).toNatClampNeg) := by
  rw [i32cl (by omega)]
  have h2 : ¬ Int32.ofInt i < 0 := fun q => by
    have := (i32lt (a := i) (b := 0) (by omega) (by omega)).mp q
    omega
  exact fun q => q.elim h2 (fun q => by omega)
section AWR
variable {F : ZF} {cells slots sz pc : Nat} {lv lv' : List (Option AwV)} {st : List AwV} {I J : AwI} {R : AwR}
theorem aw_iload_n {n : Fin 4} {x : Int} (hd : decode F.2.1 pc = .ok (.iload_n n, 1)) (hl : lv[(n : Nat)]? = some (some (zi x))) (k : AW F cells slots sz (pc + 1) lv (zi x :: st) I J R) : AW F cells slots sz (pc) lv (st) I J R := by
  intro p l e s m args below meth c H locs ls G X hR hL hS
  exact lv_iload_n X.1 X.2.1 hd rfl (hL.2.2.2 _ _ hl) (k p l e s m args below meth c H locs ls G X hR hL hS)
theorem aw_iload {n : Nat} {x : Int} (hd : decode F.2.1 pc = .ok (.iload n, 2)) (hl : lv[n]? = some (some (zi x))) (k : AW F cells slots sz (pc + 2) lv (zi x :: st) I J R) : AW F cells slots sz (pc) lv (st) I J R := by
  intro p l e s m args below meth c H locs ls G X hR hL hS
  exact lv_iload X.1 X.2.1 hd (hL.2.2.2 _ _ hl) (k p l e s m args below meth c H locs ls G X hR hL hS)
theorem aw_istore_n {n : Fin 4} {x : Int} (hd : decode F.2.1 pc = .ok (.istore_n n, 1)) (hn : (n : Nat) < F.2.2.1) (hl : z_st lv n (zi x) = lv') (k : AW F cells slots sz (pc + 1) lv' (st) I J R) : AW F cells slots sz (pc) lv (zi x :: st) I J R := by
  intro p l e s m args below meth c H locs ls G X hR hL hS
  subst hl
  exact lv_istore_n X.1 X.2.1 hd rfl hL.has hn rfl (fun ls2 h2 => k p l e s m args below meth c H locs ls2 G X hR (z_Lo.st hL h2) hS)
theorem aw_istore {n : Nat} {x : Int} (hd : decode F.2.1 pc = .ok (.istore n, 2)) (hn : n < F.2.2.1) (hl : z_st lv n (zi x) = lv') (k : AW F cells slots sz (pc + 2) lv' (st) I J R) : AW F cells slots sz (pc) lv (zi x :: st) I J R := by
  intro p l e s m args below meth c H locs ls G X hR hL hS
  subst hl
  exact lv_istore X.1 X.2.1 hd hL.has hn rfl (fun ls2 h2 => k p l e s m args below meth c H locs ls2 G X hR (z_Lo.st hL h2) hS)
theorem aw_lload_n {n : Fin 4} {x : Int} (hd : decode F.2.1 pc = .ok (.lload_n n, 1)) (hl : lv[(n : Nat)]? = some (some (zl x))) (k : AW F cells slots sz (pc + 1) lv (zl x :: st) I J R) : AW F cells slots sz (pc) lv (st) I J R := by
  intro p l e s m args below meth c H locs ls G X hR hL hS
  exact lv_lload_n X.1 X.2.1 hd rfl (hL.2.2.2 _ _ hl) (k p l e s m args below meth c H locs ls G X hR hL hS)
theorem aw_lload {n : Nat} {x : Int} (hd : decode F.2.1 pc = .ok (.lload n, 2)) (hl : lv[n]? = some (some (zl x))) (k : AW F cells slots sz (pc + 2) lv (zl x :: st) I J R) : AW F cells slots sz (pc) lv (st) I J R := by
  intro p l e s m args below meth c H locs ls G X hR hL hS
  exact lv_lload X.1 X.2.1 hd (hL.2.2.2 _ _ hl) (k p l e s m args below meth c H locs ls G X hR hL hS)
theorem aw_lstore_n {n : Fin 4} {x : Int} (hd : decode F.2.1 pc = .ok (.lstore_n n, 1)) (hn : (n : Nat) + 1 < F.2.2.1) (hl : z_st2 lv n (zl x) = lv') (k : AW F cells slots sz (pc + 1) lv' (st) I J R) : AW F cells slots sz (pc) lv (zl x :: st) I J R := by
  intro p l e s m args below meth c H locs ls G X hR hL hS
  subst hl
  exact lv_lstore_n X.1 X.2.1 hd rfl hL.has hn rfl (fun ls2 h2 => k p l e s m args below meth c H locs ls2 G X hR (z_Lo.st2 hL h2) hS)
theorem aw_lstore {n : Nat} {x : Int} (hd : decode F.2.1 pc = .ok (.lstore n, 2)) (hn : n + 1 < F.2.2.1) (hl : z_st2 lv n (zl x) = lv') (k : AW F cells slots sz (pc + 2) lv' (st) I J R) : AW F cells slots sz (pc) lv (zl x :: st) I J R := by
  intro p l e s m args below meth c H locs ls G X hR hL hS
  subst hl
  exact lv_lstore X.1 X.2.1 hd hL.has hn rfl (fun ls2 h2 => k p l e s m args below meth c H locs ls2 G X hR (z_Lo.st2 hL h2) hS)
theorem aw_aload_n {n : Fin 4} {x : Nat} (hd : decode F.2.1 pc = .ok (.aload_n n, 1)) (hl : lv[(n : Nat)]? = some (some (zr x))) (k : AW F cells slots sz (pc + 1) lv (zr x :: st) I J R) : AW F cells slots sz (pc) lv (st) I J R := by
  intro p l e s m args below meth c H locs ls G X hR hL hS
  exact lv_aload_n X.1 X.2.1 hd rfl (hL.2.2.2 _ _ hl) (k p l e s m args below meth c H locs ls G X hR hL hS)
theorem aw_aload {n : Nat} {x : Nat} (hd : decode F.2.1 pc = .ok (.aload n, 2)) (hl : lv[n]? = some (some (zr x))) (k : AW F cells slots sz (pc + 2) lv (zr x :: st) I J R) : AW F cells slots sz (pc) lv (st) I J R := by
  intro p l e s m args below meth c H locs ls G X hR hL hS
  exact lv_aload X.1 X.2.1 hd (hL.2.2.2 _ _ hl) (k p l e s m args below meth c H locs ls G X hR hL hS)
theorem aw_astore_n {n : Fin 4} {x : Nat} (hd : decode F.2.1 pc = .ok (.astore_n n, 1)) (hn : (n : Nat) < F.2.2.1) (hl : z_st lv n (zr x) = lv') (k : AW F cells slots sz (pc + 1) lv' (st) I J R) : AW F cells slots sz (pc) lv (zr x :: st) I J R := by
  intro p l e s m args below meth c H locs ls G X hR hL hS
  subst hl
  exact lv_astore_n X.1 X.2.1 hd rfl hL.has hn rfl (fun ls2 h2 => k p l e s m args below meth c H locs ls2 G X hR (z_Lo.st hL h2) hS)
theorem aw_astore {n : Nat} {x : Nat} (hd : decode F.2.1 pc = .ok (.astore n, 2)) (hn : n < F.2.2.1) (hl : z_st lv n (zr x) = lv') (k : AW F cells slots sz (pc + 2) lv' (st) I J R) : AW F cells slots sz (pc) lv (zr x :: st) I J R := by
  intro p l e s m args below meth c H locs ls G X hR hL hS
  subst hl
  exact lv_astore X.1 X.2.1 hd hL.has hn rfl (fun ls2 h2 => k p l e s m args below meth c H locs ls2 G X hR (z_Lo.st hL h2) hS)
theorem aw_iinc {n : Nat} {d x : Int} (hd : decode F.2.1 pc = .ok (.iinc n d, 3)) (hn : n < F.2.2.1) (hg : lv[n]? = some (some (zi x))) (hl : z_st lv n (zi (x + d)) = lv') (k : AW F cells slots sz (pc + 3) lv' (st) I J R) : AW F cells slots sz (pc) lv (st) I J R := by
  intro p l e s m args below meth c H locs ls G X hR hL hS
  subst hl
  obtain ⟨q, hq⟩ := List.getElem?_of_mem (z_Lo.in (b := G.2.2) (nL := 0) hg)
  exact lv_iinc X.1 X.2.1 hd hL.has hq (Int32.ofInt_add x d).symm hn rfl (fun ls2 h2 => k p l e s m args below meth c H locs ls2 G X hR (z_Lo.st (v := zi (x + d)) hL h2) hS)
theorem aw_iconst {n : Int} (hd : decode F.2.1 pc = .ok (.iconst n, 1)) (k : AW F cells slots sz (pc + 1) lv (zi n :: st) I J R) : AW F cells slots sz (pc) lv (st) I J R := by
  intro p l e s m args below meth c H locs ls G X hR hL hS
  exact lv_iconst X.1 X.2.1 hd rfl (k p l e s m args below meth c H locs ls G X hR hL hS)
theorem aw_bipush {n : Int} (hd : decode F.2.1 pc = .ok (.bipush n, 2)) (hn : (Int8.ofInt n).toInt32 = Int32.ofInt n) (k : AW F cells slots sz (pc + 2) lv (zi n :: st) I J R) : AW F cells slots sz (pc) lv (st) I J R := by
  intro p l e s m args below meth c H locs ls G X hR hL hS
  exact lv_bipush X.1 X.2.1 hd hn (k p l e s m args below meth c H locs ls G X hR hL hS)
theorem aw_sipush {n : Int} (hd : decode F.2.1 pc = .ok (.sipush n, 3)) (hn : (Int16.ofInt n).toInt32 = Int32.ofInt n) (k : AW F cells slots sz (pc + 3) lv (zi n :: st) I J R) : AW F cells slots sz (pc) lv (st) I J R := by
  intro p l e s m args below meth c H locs ls G X hR hL hS
  exact lv_sipush X.1 X.2.1 hd hn (k p l e s m args below meth c H locs ls G X hR hL hS)
theorem aw_lconst {n : Fin 2} {v : Int} (hd : decode F.2.1 pc = .ok (.lconst n, 1)) (hn : Int64.ofNat (n : Nat) = Int64.ofInt v) (k : AW F cells slots sz (pc + 1) lv (zl v :: st) I J R) : AW F cells slots sz (pc) lv (st) I J R := by
  intro p l e s m args below meth c H locs ls G X hR hL hS
  exact lv_lconst X.1 X.2.1 hd hn (k p l e s m args below meth c H locs ls G X hR hL hS)
theorem aw_ldc {n : Nat} {v : Int} (hd : decode F.2.1 pc = .ok (.ldc n, 2)) (hw : Cond.constant F.1.cls n (Int32.ofInt v) ∈ z_tb) (k : AW F cells slots sz (pc + 2) lv (zi v :: st) I J R) : AW F cells slots sz (pc) lv (st) I J R := by
  intro p l e s m args below meth c H locs ls G X hR hL hS
  exact lv_ldc X.1 X.2.1 X.2.2.2.2.2.1 (X.2.2.2.2.2.2.1 _ hw) hd (k p l e s m args below meth c H locs ls G X hR hL hS)
theorem aw_ldcw {n : Nat} {v : Int} (hd : decode F.2.1 pc = .ok (.ldc_w n, 3)) (hw : Cond.constant F.1.cls n (Int32.ofInt v) ∈ z_tb) (k : AW F cells slots sz (pc + 3) lv (zi v :: st) I J R) : AW F cells slots sz (pc) lv (st) I J R := by
  intro p l e s m args below meth c H locs ls G X hR hL hS
  exact lv_ldcw X.1 X.2.1 X.2.2.2.2.2.1 (X.2.2.2.2.2.2.1 _ hw) hd (k p l e s m args below meth c H locs ls G X hR hL hS)
theorem aw_ldc2 {n : Nat} {v : Int} (hd : decode F.2.1 pc = .ok (.ldc2_w n, 3)) (hw : Cond.constantLong F.1.cls n (Int64.ofInt v) ∈ z_tb) (k : AW F cells slots sz (pc + 3) lv (zl v :: st) I J R) : AW F cells slots sz (pc) lv (st) I J R := by
  intro p l e s m args below meth c H locs ls G X hR hL hS
  exact lv_ldc2 X.1 X.2.1 X.2.2.2.2.2.1 (X.2.2.2.2.2.2.1 _ hw) hd (k p l e s m args below meth c H locs ls G X hR hL hS)
theorem aw_iadd {x y : Int} (hd : decode F.2.1 pc = .ok (.iadd, 1)) (k : AW F cells slots sz (pc + 1) lv (zi (x + y) :: st) I J R) : AW F cells slots sz (pc) lv (zi y :: zi x :: st) I J R := by
  intro p l e s m args below meth c H locs ls G X hR hL hS
  have K := k p l e s m args below meth c H locs ls G X hR hL hS
  rw [List.map_cons, show z_cv G.2.2 (zi (x + y)) = Value.int (Int32.ofInt x + Int32.ofInt y) from congrArg Value.int (Int32.ofInt_add x y)] at K
  exact lv_iadd X.1 X.2.1 hd K
theorem aw_isub {x y : Int} (hd : decode F.2.1 pc = .ok (.isub, 1)) (k : AW F cells slots sz (pc + 1) lv (zi (x - y) :: st) I J R) : AW F cells slots sz (pc) lv (zi y :: zi x :: st) I J R := by
  intro p l e s m args below meth c H locs ls G X hR hL hS
  have K := k p l e s m args below meth c H locs ls G X hR hL hS
  rw [List.map_cons, show z_cv G.2.2 (zi (x - y)) = Value.int (Int32.ofInt x - Int32.ofInt y) from congrArg Value.int (Int32.ofInt_sub x y)] at K
  exact lv_isub X.1 X.2.1 hd K
theorem aw_imul {x y : Int} (hd : decode F.2.1 pc = .ok (.imul, 1)) (k : AW F cells slots sz (pc + 1) lv (zi (x * y) :: st) I J R) : AW F cells slots sz (pc) lv (zi y :: zi x :: st) I J R := by
  intro p l e s m args below meth c H locs ls G X hR hL hS
  have K := k p l e s m args below meth c H locs ls G X hR hL hS
  rw [List.map_cons, show z_cv G.2.2 (zi (x * y)) = Value.int (Int32.ofInt x * Int32.ofInt y) from congrArg Value.int (Int32.ofInt_mul x y)] at K
  exact lv_imul X.1 X.2.1 hd K
theorem aw_ladd {x y : Int} (hd : decode F.2.1 pc = .ok (.ladd, 1)) (k : AW F cells slots sz (pc + 1) lv (zl (x + y) :: st) I J R) : AW F cells slots sz (pc) lv (zl y :: zl x :: st) I J R := by
  intro p l e s m args below meth c H locs ls G X hR hL hS
  have K := k p l e s m args below meth c H locs ls G X hR hL hS
  rw [List.map_cons, show z_cv G.2.2 (zl (x + y)) = Value.long (Int64.ofInt x + Int64.ofInt y) from congrArg Value.long (Int64.ofInt_add x y)] at K
  exact lv_ladd X.1 X.2.1 hd K
theorem aw_lsub {x y : Int} (hd : decode F.2.1 pc = .ok (.lsub, 1)) (k : AW F cells slots sz (pc + 1) lv (zl (x - y) :: st) I J R) : AW F cells slots sz (pc) lv (zl y :: zl x :: st) I J R := by
  intro p l e s m args below meth c H locs ls G X hR hL hS
  have K := k p l e s m args below meth c H locs ls G X hR hL hS
  rw [List.map_cons, show z_cv G.2.2 (zl (x - y)) = Value.long (Int64.ofInt x - Int64.ofInt y) from congrArg Value.long (Int64.ofInt_sub x y)] at K
  exact lv_lsub X.1 X.2.1 hd K
theorem aw_lmul {x y : Int} (hd : decode F.2.1 pc = .ok (.lmul, 1)) (k : AW F cells slots sz (pc + 1) lv (zl (x * y) :: st) I J R) : AW F cells slots sz (pc) lv (zl y :: zl x :: st) I J R := by
  intro p l e s m args below meth c H locs ls G X hR hL hS
  have K := k p l e s m args below meth c H locs ls G X hR hL hS
  rw [List.map_cons, show z_cv G.2.2 (zl (x * y)) = Value.long (Int64.ofInt x * Int64.ofInt y) from congrArg Value.long (Int64.ofInt_mul x y)] at K
  exact lv_lmul X.1 X.2.1 hd K
theorem aw_ineg {x : Int} (hd : decode F.2.1 pc = .ok (.ineg, 1)) (k : AW F cells slots sz (pc + 1) lv (zi (-x) :: st) I J R) : AW F cells slots sz (pc) lv (zi x :: st) I J R := by
  intro p l e s m args below meth c H locs ls G X hR hL hS
  have K := k p l e s m args below meth c H locs ls G X hR hL hS
  rw [List.map_cons, show z_cv G.2.2 (zi (-x)) = Value.int (-Int32.ofInt x) from congrArg Value.int (Int32.ofInt_neg x)] at K
  exact lv_ineg X.1 X.2.1 hd K
theorem aw_lneg {x : Int} (hd : decode F.2.1 pc = .ok (.lneg, 1)) (k : AW F cells slots sz (pc + 1) lv (zl (-x) :: st) I J R) : AW F cells slots sz (pc) lv (zl x :: st) I J R := by
  intro p l e s m args below meth c H locs ls G X hR hL hS
  have K := k p l e s m args below meth c H locs ls G X hR hL hS
  rw [List.map_cons, show z_cv G.2.2 (zl (-x)) = Value.long (-Int64.ofInt x) from congrArg Value.long (Int64.ofInt_neg x)] at K
  exact lv_lneg X.1 X.2.1 hd K
theorem aw_idiv {x y : Int} (hd : decode F.2.1 pc = .ok (.idiv, 1)) (hx : -2147483648 ≤ x ∧ x ≤ 2147483647) (hy : -2147483648 ≤ y ∧ y ≤ 2147483647) (h0 : y ≠ 0) (k : AW F cells slots sz (pc + 1) lv (zi (x.tdiv y) :: st) I J R) : AW F cells slots sz (pc) lv (zi y :: zi x :: st) I J R := by
  intro p l e s m args below meth c H locs ls G X hR hL hS
  have K := k p l e s m args below meth c H locs ls G X hR hL hS
  rw [List.map_cons, show z_cv G.2.2 (zi (x.tdiv y)) = Value.int (Int32.ofInt x / Int32.ofInt y) from congrArg Value.int (Int32.ofInt_tdiv hx.1 hx.2 hy.1 hy.2)] at K
  exact lv_idiv X.1 X.2.1 hd (fun q => h0 ((i32eq hy (by omega)).mp (q.trans (by rfl : (0 : Int32) = Int32.ofInt 0)))) K
theorem aw_irem {x y : Int} (hd : decode F.2.1 pc = .ok (.irem, 1)) (hx : -2147483648 ≤ x ∧ x ≤ 2147483647) (hy : -2147483648 ≤ y ∧ y ≤ 2147483647) (h0 : y ≠ 0) (k : AW F cells slots sz (pc + 1) lv (zi (x.tmod y) :: st) I J R) : AW F cells slots sz (pc) lv (zi y :: zi x :: st) I J R := by
  intro p l e s m args below meth c H locs ls G X hR hL hS
  have K := k p l e s m args below meth c H locs ls G X hR hL hS
  rw [List.map_cons, show z_cv G.2.2 (zi (x.tmod y)) = Value.int (Int32.ofInt x - Int32.ofInt x / Int32.ofInt y * Int32.ofInt y) from congrArg Value.int (by rw [← Int32.ofInt_tdiv hx.1 hx.2 hy.1 hy.2, ← Int32.ofInt_mul, ← Int32.ofInt_sub, Int.tmod_def, Int.mul_comm])] at K
  exact lv_irem X.1 X.2.1 hd (fun q => h0 ((i32eq hy (by omega)).mp (q.trans (by rfl : (0 : Int32) = Int32.ofInt 0)))) K
theorem aw_ldiv {x y : Int} (hd : decode F.2.1 pc = .ok (.ldiv, 1)) (hx : -9223372036854775808 ≤ x ∧ x ≤ 9223372036854775807) (hy : -9223372036854775808 ≤ y ∧ y ≤ 9223372036854775807) (h0 : y ≠ 0) (k : AW F cells slots sz (pc + 1) lv (zl (x.tdiv y) :: st) I J R) : AW F cells slots sz (pc) lv (zl y :: zl x :: st) I J R := by
  intro p l e s m args below meth c H locs ls G X hR hL hS
  have K := k p l e s m args below meth c H locs ls G X hR hL hS
  rw [List.map_cons, show z_cv G.2.2 (zl (x.tdiv y)) = Value.long (Int64.ofInt x / Int64.ofInt y) from congrArg Value.long (Int64.ofInt_tdiv hx.1 hx.2 hy.1 hy.2)] at K
  exact lv_ldiv X.1 X.2.1 hd (fun q => h0 ((i64eq hy (by omega)).mp (q.trans (by rfl : (0 : Int64) = Int64.ofInt 0)))) K
theorem aw_lrem {x y : Int} (hd : decode F.2.1 pc = .ok (.lrem, 1)) (hx : -9223372036854775808 ≤ x ∧ x ≤ 9223372036854775807) (hy : -9223372036854775808 ≤ y ∧ y ≤ 9223372036854775807) (h0 : y ≠ 0) (k : AW F cells slots sz (pc + 1) lv (zl (x.tmod y) :: st) I J R) : AW F cells slots sz (pc) lv (zl y :: zl x :: st) I J R := by
  intro p l e s m args below meth c H locs ls G X hR hL hS
  have K := k p l e s m args below meth c H locs ls G X hR hL hS
  rw [List.map_cons, show z_cv G.2.2 (zl (x.tmod y)) = Value.long (Int64.ofInt x - Int64.ofInt x / Int64.ofInt y * Int64.ofInt y) from congrArg Value.long (by rw [← Int64.ofInt_tdiv hx.1 hx.2 hy.1 hy.2, ← Int64.ofInt_mul, ← Int64.ofInt_sub, Int.tmod_def, Int.mul_comm])] at K
  exact lv_lrem X.1 X.2.1 hd (fun q => h0 ((i64eq hy (by omega)).mp (q.trans (by rfl : (0 : Int64) = Int64.ofInt 0)))) K
theorem aw_i2l {x : Int} (hd : decode F.2.1 pc = .ok (.i2l, 1)) (hx : -2147483648 ≤ x ∧ x ≤ 2147483647) (k : AW F cells slots sz (pc + 1) lv (zl x :: st) I J R) : AW F cells slots sz (pc) lv (zi x :: st) I J R := by
  intro p l e s m args below meth c H locs ls G X hR hL hS
  exact lv_i2l X.1 X.2.1 hd (Int32.toInt64_ofInt hx.1 hx.2) (k p l e s m args below meth c H locs ls G X hR hL hS)
theorem aw_l2i {x : Int} (hd : decode F.2.1 pc = .ok (.l2i, 1)) (k : AW F cells slots sz (pc + 1) lv (zi x :: st) I J R) : AW F cells slots sz (pc) lv (zl x :: st) I J R := by
  intro p l e s m args below meth c H locs ls G X hR hL hS
  exact lv_l2i X.1 X.2.1 hd Int64.toInt32_ofInt (k p l e s m args below meth c H locs ls G X hR hL hS)
theorem aw_icmp_ge {x y off : Int} {tgt : Nat} (hd : decode F.2.1 pc = .ok (.if_icmp .ge off, 3)) (ht : (pc : Int) + off = (tgt : Int)) (hx : -2147483648 ≤ x ∧ x ≤ 2147483647) (hy : -2147483648 ≤ y ∧ y ≤ 2147483647) (kt : y ≤ x → AW F cells slots sz (tgt) lv (st) I J R) (kf : x < y → AW F cells slots sz (pc + 3) lv (st) I J R) : AW F cells slots sz (pc) lv (zi y :: zi x :: st) I J R := by
  intro p l e s m args below meth c H locs ls G X hR hL hS
  exact lv_icmp_ge X.1 X.2.1 hd ht (fun h => kt ((i32le hy hx).mp h) p l e s m args below meth c H locs ls G X hR hL hS) (fun h => kf (by have := mt (i32le hy hx).mpr h; omega) p l e s m args below meth c H locs ls G X hR hL hS)
theorem aw_icmp_gt {x y off : Int} {tgt : Nat} (hd : decode F.2.1 pc = .ok (.if_icmp .gt off, 3)) (ht : (pc : Int) + off = (tgt : Int)) (hx : -2147483648 ≤ x ∧ x ≤ 2147483647) (hy : -2147483648 ≤ y ∧ y ≤ 2147483647) (kt : y < x → AW F cells slots sz (tgt) lv (st) I J R) (kf : x ≤ y → AW F cells slots sz (pc + 3) lv (st) I J R) : AW F cells slots sz (pc) lv (zi y :: zi x :: st) I J R := by
  intro p l e s m args below meth c H locs ls G X hR hL hS
  exact lv_icmp_gt X.1 X.2.1 hd ht (fun h => kt ((i32lt hy hx).mp h) p l e s m args below meth c H locs ls G X hR hL hS) (fun h => kf (by have := mt (i32lt hy hx).mpr h; omega) p l e s m args below meth c H locs ls G X hR hL hS)
theorem aw_icmp_lt {x y off : Int} {tgt : Nat} (hd : decode F.2.1 pc = .ok (.if_icmp .lt off, 3)) (ht : (pc : Int) + off = (tgt : Int)) (hx : -2147483648 ≤ x ∧ x ≤ 2147483647) (hy : -2147483648 ≤ y ∧ y ≤ 2147483647) (kt : x < y → AW F cells slots sz (tgt) lv (st) I J R) (kf : y ≤ x → AW F cells slots sz (pc + 3) lv (st) I J R) : AW F cells slots sz (pc) lv (zi y :: zi x :: st) I J R := by
  intro p l e s m args below meth c H locs ls G X hR hL hS
  exact lv_icmp_lt X.1 X.2.1 hd ht (fun h => kt ((i32lt hx hy).mp h) p l e s m args below meth c H locs ls G X hR hL hS) (fun h => kf (by have := mt (i32lt hx hy).mpr h; omega) p l e s m args below meth c H locs ls G X hR hL hS)
theorem aw_icmp_le {x y off : Int} {tgt : Nat} (hd : decode F.2.1 pc = .ok (.if_icmp .le off, 3)) (ht : (pc : Int) + off = (tgt : Int)) (hx : -2147483648 ≤ x ∧ x ≤ 2147483647) (hy : -2147483648 ≤ y ∧ y ≤ 2147483647) (kt : x ≤ y → AW F cells slots sz (tgt) lv (st) I J R) (kf : y < x → AW F cells slots sz (pc + 3) lv (st) I J R) : AW F cells slots sz (pc) lv (zi y :: zi x :: st) I J R := by
  intro p l e s m args below meth c H locs ls G X hR hL hS
  exact lv_icmp_le X.1 X.2.1 hd ht (fun h => kt ((i32le hx hy).mp h) p l e s m args below meth c H locs ls G X hR hL hS) (fun h => kf (by have := mt (i32le hx hy).mpr h; omega) p l e s m args below meth c H locs ls G X hR hL hS)
theorem aw_icmp_eq {x y off : Int} {tgt : Nat} (hd : decode F.2.1 pc = .ok (.if_icmp .eq off, 3)) (ht : (pc : Int) + off = (tgt : Int)) (hx : -2147483648 ≤ x ∧ x ≤ 2147483647) (hy : -2147483648 ≤ y ∧ y ≤ 2147483647) (kt : x = y → AW F cells slots sz (tgt) lv (st) I J R) (kf : x ≠ y → AW F cells slots sz (pc + 3) lv (st) I J R) : AW F cells slots sz (pc) lv (zi y :: zi x :: st) I J R := by
  intro p l e s m args below meth c H locs ls G X hR hL hS
  exact lv_icmp_eq X.1 X.2.1 hd ht (fun h => kt ((i32eq hx hy).mp h) p l e s m args below meth c H locs ls G X hR hL hS) (fun h => kf (fun q => h ((i32eq hx hy).mpr q)) p l e s m args below meth c H locs ls G X hR hL hS)
theorem aw_icmp_ne {x y off : Int} {tgt : Nat} (hd : decode F.2.1 pc = .ok (.if_icmp .ne off, 3)) (ht : (pc : Int) + off = (tgt : Int)) (hx : -2147483648 ≤ x ∧ x ≤ 2147483647) (hy : -2147483648 ≤ y ∧ y ≤ 2147483647) (kt : x ≠ y → AW F cells slots sz (tgt) lv (st) I J R) (kf : x = y → AW F cells slots sz (pc + 3) lv (st) I J R) : AW F cells slots sz (pc) lv (zi y :: zi x :: st) I J R := by
  intro p l e s m args below meth c H locs ls G X hR hL hS
  exact lv_icmp_ne X.1 X.2.1 hd ht (fun h => kt (fun q => h ((i32eq hx hy).mpr q)) p l e s m args below meth c H locs ls G X hR hL hS) (fun h => kf ((i32eq hx hy).mp h) p l e s m args below meth c H locs ls G X hR hL hS)
theorem aw_if_ge {x off : Int} {tgt : Nat} (hd : decode F.2.1 pc = .ok (.ifCond .ge off, 3)) (ht : (pc : Int) + off = (tgt : Int)) (hx : -2147483648 ≤ x ∧ x ≤ 2147483647) (kt : 0 ≤ x → AW F cells slots sz (tgt) lv (st) I J R) (kf : x < 0 → AW F cells slots sz (pc + 3) lv (st) I J R) : AW F cells slots sz (pc) lv (zi x :: st) I J R := by
  intro p l e s m args below meth c H locs ls G X hR hL hS
  exact lv_if_ge X.1 X.2.1 hd ht (fun h => kt ((i32le (a := 0) (by omega) hx).mp h) p l e s m args below meth c H locs ls G X hR hL hS) (fun h => kf (by have := mt (i32le (a := 0) (by omega) hx).mpr h; omega) p l e s m args below meth c H locs ls G X hR hL hS)
theorem aw_if_gt {x off : Int} {tgt : Nat} (hd : decode F.2.1 pc = .ok (.ifCond .gt off, 3)) (ht : (pc : Int) + off = (tgt : Int)) (hx : -2147483648 ≤ x ∧ x ≤ 2147483647) (kt : 0 < x → AW F cells slots sz (tgt) lv (st) I J R) (kf : x ≤ 0 → AW F cells slots sz (pc + 3) lv (st) I J R) : AW F cells slots sz (pc) lv (zi x :: st) I J R := by
  intro p l e s m args below meth c H locs ls G X hR hL hS
  exact lv_if_gt X.1 X.2.1 hd ht (fun h => kt ((i32lt (a := 0) (by omega) hx).mp h) p l e s m args below meth c H locs ls G X hR hL hS) (fun h => kf (by have := mt (i32lt (a := 0) (by omega) hx).mpr h; omega) p l e s m args below meth c H locs ls G X hR hL hS)
theorem aw_if_lt {x off : Int} {tgt : Nat} (hd : decode F.2.1 pc = .ok (.ifCond .lt off, 3)) (ht : (pc : Int) + off = (tgt : Int)) (hx : -2147483648 ≤ x ∧ x ≤ 2147483647) (kt : x < 0 → AW F cells slots sz (tgt) lv (st) I J R) (kf : 0 ≤ x → AW F cells slots sz (pc + 3) lv (st) I J R) : AW F cells slots sz (pc) lv (zi x :: st) I J R := by
  intro p l e s m args below meth c H locs ls G X hR hL hS
  exact lv_if_lt X.1 X.2.1 hd ht (fun h => kt ((i32lt (b := 0) hx (by omega)).mp h) p l e s m args below meth c H locs ls G X hR hL hS) (fun h => kf (by have := mt (i32lt (b := 0) hx (by omega)).mpr h; omega) p l e s m args below meth c H locs ls G X hR hL hS)
theorem aw_if_le {x off : Int} {tgt : Nat} (hd : decode F.2.1 pc = .ok (.ifCond .le off, 3)) (ht : (pc : Int) + off = (tgt : Int)) (hx : -2147483648 ≤ x ∧ x ≤ 2147483647) (kt : x ≤ 0 → AW F cells slots sz (tgt) lv (st) I J R) (kf : 0 < x → AW F cells slots sz (pc + 3) lv (st) I J R) : AW F cells slots sz (pc) lv (zi x :: st) I J R := by
  intro p l e s m args below meth c H locs ls G X hR hL hS
  exact lv_if_le X.1 X.2.1 hd ht (fun h => kt ((i32le (b := 0) hx (by omega)).mp h) p l e s m args below meth c H locs ls G X hR hL hS) (fun h => kf (by have := mt (i32le (b := 0) hx (by omega)).mpr h; omega) p l e s m args below meth c H locs ls G X hR hL hS)
theorem aw_if_eq {x off : Int} {tgt : Nat} (hd : decode F.2.1 pc = .ok (.ifCond .eq off, 3)) (ht : (pc : Int) + off = (tgt : Int)) (hx : -2147483648 ≤ x ∧ x ≤ 2147483647) (kt : x = 0 → AW F cells slots sz (tgt) lv (st) I J R) (kf : x ≠ 0 → AW F cells slots sz (pc + 3) lv (st) I J R) : AW F cells slots sz (pc) lv (zi x :: st) I J R := by
  intro p l e s m args below meth c H locs ls G X hR hL hS
  exact lv_if_eq X.1 X.2.1 hd ht (fun h => kt ((i32eq (b := 0) hx (by omega)).mp h) p l e s m args below meth c H locs ls G X hR hL hS) (fun h => kf (fun q => h ((i32eq (b := 0) hx (by omega)).mpr q)) p l e s m args below meth c H locs ls G X hR hL hS)
theorem aw_if_ne {x off : Int} {tgt : Nat} (hd : decode F.2.1 pc = .ok (.ifCond .ne off, 3)) (ht : (pc : Int) + off = (tgt : Int)) (hx : -2147483648 ≤ x ∧ x ≤ 2147483647) (kt : x ≠ 0 → AW F cells slots sz (tgt) lv (st) I J R) (kf : x = 0 → AW F cells slots sz (pc + 3) lv (st) I J R) : AW F cells slots sz (pc) lv (zi x :: st) I J R := by
  intro p l e s m args below meth c H locs ls G X hR hL hS
  exact lv_if_ne X.1 X.2.1 hd ht (fun h => kt (fun q => h ((i32eq (b := 0) hx (by omega)).mpr q)) p l e s m args below meth c H locs ls G X hR hL hS) (fun h => kf ((i32eq (b := 0) hx (by omega)).mp h) p l e s m args below meth c H locs ls G X hR hL hS)
def z_cmp (x y : Int) : Int := if y < x then 1 else if x = y then 0 else -1
theorem z_cmp_of {x y : Int} (hx : -9223372036854775808 ≤ x ∧ x ≤ 9223372036854775807) (hy : -9223372036854775808 ≤ y ∧ y ≤ 9223372036854775807) : lg_cmp (Int64.ofInt x) (Int64.ofInt y) = Int32.ofInt (z_cmp x y) := by
  unfold lg_cmp z_cmp
  by_cases h : y < x
  · rw [if_pos h, if_pos ((i64lt hy hx).mpr h)]; rfl
  · rw [if_neg h, if_neg (fun q => h ((i64lt hy hx).mp q))]
    by_cases h2 : x = y
    · rw [if_pos h2, if_pos ((i64eq hx hy).mpr h2)]; rfl
    · rw [if_neg h2, if_neg (fun q => h2 ((i64eq hx hy).mp q))]; rfl
theorem z_cmp_r (x y : Int) : -2147483648 ≤ z_cmp x y ∧ z_cmp x y ≤ 2147483647 := by
  unfold z_cmp
  split
  · omega
  · split <;> omega
theorem z_cmp_ge (x y : Int) : 0 ≤ z_cmp x y ↔ y ≤ x := by
  unfold z_cmp
  split
  · omega
  · split <;> omega
theorem z_cmp_gt (x y : Int) : 0 < z_cmp x y ↔ y < x := by
  unfold z_cmp
  split
  · omega
  · split <;> omega
theorem z_cmp_eq (x y : Int) : z_cmp x y = 0 ↔ x = y := by
  unfold z_cmp
  split
  · omega
  · split <;> omega
theorem aw_lcmp {x y : Int} (hd : decode F.2.1 pc = .ok (.lcmp, 1)) (hx : -9223372036854775808 ≤ x ∧ x ≤ 9223372036854775807) (hy : -9223372036854775808 ≤ y ∧ y ≤ 9223372036854775807) (k : AW F cells slots sz (pc + 1) lv (zi (z_cmp x y) :: st) I J R) : AW F cells slots sz (pc) lv (zl y :: zl x :: st) I J R := by
  intro p l e s m args below meth c H locs ls G X hR hL hS
  have K := k p l e s m args below meth c H locs ls G X hR hL hS
  rw [List.map_cons, show z_cv G.2.2 (zi (z_cmp x y)) = Value.int (lg_cmp (Int64.ofInt x) (Int64.ofInt y)) from congrArg Value.int (z_cmp_of hx hy).symm] at K
  exact W.lcmp X.1 X.2.1 hd K
theorem aw_lcmp_ge {x y off : Int} {tgt : Nat} (hd : decode F.2.1 pc = .ok (.lcmp, 1)) (hd2 : decode F.2.1 (pc + 1) = .ok (.ifCond .ge off, 3)) (ht : ((pc + 1 : Nat) : Int) + off = (tgt : Int)) (hx : -9223372036854775808 ≤ x ∧ x ≤ 9223372036854775807) (hy : -9223372036854775808 ≤ y ∧ y ≤ 9223372036854775807) (kt : y ≤ x → AW F cells slots sz (tgt) lv (st) I J R) (kf : x < y → AW F cells slots sz (pc + 1 + 3) lv (st) I J R) : AW F cells slots sz (pc) lv (zl y :: zl x :: st) I J R :=
  aw_lcmp hd hx hy (aw_if_ge hd2 ht (z_cmp_r x y) (fun h => kt ((z_cmp_ge x y).mp h)) (fun h => kf (by have := mt (z_cmp_ge x y).mpr (by omega); omega)))
theorem aw_lcmp_gt {x y off : Int} {tgt : Nat} (hd : decode F.2.1 pc = .ok (.lcmp, 1)) (hd2 : decode F.2.1 (pc + 1) = .ok (.ifCond .gt off, 3)) (ht : ((pc + 1 : Nat) : Int) + off = (tgt : Int)) (hx : -9223372036854775808 ≤ x ∧ x ≤ 9223372036854775807) (hy : -9223372036854775808 ≤ y ∧ y ≤ 9223372036854775807) (kt : y < x → AW F cells slots sz (tgt) lv (st) I J R) (kf : x ≤ y → AW F cells slots sz (pc + 1 + 3) lv (st) I J R) : AW F cells slots sz (pc) lv (zl y :: zl x :: st) I J R :=
  aw_lcmp hd hx hy (aw_if_gt hd2 ht (z_cmp_r x y) (fun h => kt ((z_cmp_gt x y).mp h)) (fun h => kf (by have := mt (z_cmp_gt x y).mpr (by omega); omega)))
theorem aw_lcmp_lt {x y off : Int} {tgt : Nat} (hd : decode F.2.1 pc = .ok (.lcmp, 1)) (hd2 : decode F.2.1 (pc + 1) = .ok (.ifCond .lt off, 3)) (ht : ((pc + 1 : Nat) : Int) + off = (tgt : Int)) (hx : -9223372036854775808 ≤ x ∧ x ≤ 9223372036854775807) (hy : -9223372036854775808 ≤ y ∧ y ≤ 9223372036854775807) (kt : x < y → AW F cells slots sz (tgt) lv (st) I J R) (kf : y ≤ x → AW F cells slots sz (pc + 1 + 3) lv (st) I J R) : AW F cells slots sz (pc) lv (zl y :: zl x :: st) I J R :=
  aw_lcmp hd hx hy (aw_if_lt hd2 ht (z_cmp_r x y) (fun h => kt (by have := mt (z_cmp_ge x y).mpr (by omega); omega)) (fun h => kf ((z_cmp_ge x y).mp h)))
theorem aw_lcmp_le {x y off : Int} {tgt : Nat} (hd : decode F.2.1 pc = .ok (.lcmp, 1)) (hd2 : decode F.2.1 (pc + 1) = .ok (.ifCond .le off, 3)) (ht : ((pc + 1 : Nat) : Int) + off = (tgt : Int)) (hx : -9223372036854775808 ≤ x ∧ x ≤ 9223372036854775807) (hy : -9223372036854775808 ≤ y ∧ y ≤ 9223372036854775807) (kt : x ≤ y → AW F cells slots sz (tgt) lv (st) I J R) (kf : y < x → AW F cells slots sz (pc + 1 + 3) lv (st) I J R) : AW F cells slots sz (pc) lv (zl y :: zl x :: st) I J R :=
  aw_lcmp hd hx hy (aw_if_le hd2 ht (z_cmp_r x y) (fun h => kt (by have := mt (z_cmp_gt x y).mpr (by omega); omega)) (fun h => kf ((z_cmp_gt x y).mp h)))
theorem aw_lcmp_eq {x y off : Int} {tgt : Nat} (hd : decode F.2.1 pc = .ok (.lcmp, 1)) (hd2 : decode F.2.1 (pc + 1) = .ok (.ifCond .eq off, 3)) (ht : ((pc + 1 : Nat) : Int) + off = (tgt : Int)) (hx : -9223372036854775808 ≤ x ∧ x ≤ 9223372036854775807) (hy : -9223372036854775808 ≤ y ∧ y ≤ 9223372036854775807) (kt : x = y → AW F cells slots sz (tgt) lv (st) I J R) (kf : x ≠ y → AW F cells slots sz (pc + 1 + 3) lv (st) I J R) : AW F cells slots sz (pc) lv (zl y :: zl x :: st) I J R :=
  aw_lcmp hd hx hy (aw_if_eq hd2 ht (z_cmp_r x y) (fun h => kt ((z_cmp_eq x y).mp h)) (fun h => kf (fun q => h ((z_cmp_eq x y).mpr q))))
theorem aw_lcmp_ne {x y off : Int} {tgt : Nat} (hd : decode F.2.1 pc = .ok (.lcmp, 1)) (hd2 : decode F.2.1 (pc + 1) = .ok (.ifCond .ne off, 3)) (ht : ((pc + 1 : Nat) : Int) + off = (tgt : Int)) (hx : -9223372036854775808 ≤ x ∧ x ≤ 9223372036854775807) (hy : -9223372036854775808 ≤ y ∧ y ≤ 9223372036854775807) (kt : x ≠ y → AW F cells slots sz (tgt) lv (st) I J R) (kf : x = y → AW F cells slots sz (pc + 1 + 3) lv (st) I J R) : AW F cells slots sz (pc) lv (zl y :: zl x :: st) I J R :=
  aw_lcmp hd hx hy (aw_if_ne hd2 ht (z_cmp_r x y) (fun h => kt (fun q => h ((z_cmp_eq x y).mpr q))) (fun h => kf ((z_cmp_eq x y).mp h)))
theorem aw_goto {off : Int} {tgt : Nat} (hd : decode F.2.1 pc = .ok (.goto off, 3)) (ht : (pc : Int) + off = (tgt : Int)) (k : AW F cells slots sz (tgt) lv (st) I J R) : AW F cells slots sz (pc) lv (st) I J R := by
  intro p l e s m args below meth c H locs ls G X hR hL hS
  exact lv_goto X.1 X.2.1 hd ht (k p l e s m args below meth c H locs ls G X hR hL hS)
theorem z_c1 (b : Nat) {v : AwV} (h : ∀ x, v ≠ zl x) : (z_cv b v).category = 1 := by
  rcases lv_cat (z_cv b v) with q | q
  · exact q
  · obtain ⟨x, hx⟩ := (z_cat b v).mp q
    exact absurd hx (h x)
theorem aw_dup {v : AwV} (hd : decode F.2.1 pc = .ok (.dup, 1)) (hv : ∀ x, v ≠ zl x) (k : AW F cells slots sz (pc + 1) lv (v :: v :: st) I J R) : AW F cells slots sz (pc) lv (v :: st) I J R := by
  intro p l e s m args below meth c H locs ls G X hR hL hS
  exact lv_dup X.1 X.2.1 hd (z_c1 _ hv) (k p l e s m args below meth c H locs ls G X hR hL hS)
theorem aw_dup_x1 {v u : AwV} (hd : decode F.2.1 pc = .ok (.dup_x1, 1)) (hv : ∀ x, v ≠ zl x) (hu : ∀ x, u ≠ zl x) (k : AW F cells slots sz (pc + 1) lv (v :: u :: v :: st) I J R) : AW F cells slots sz (pc) lv (v :: u :: st) I J R := by
  intro p l e s m args below meth c H locs ls G X hR hL hS
  exact lv_dup_x1 X.1 X.2.1 hd (z_c1 _ hv) (z_c1 _ hu) (k p l e s m args below meth c H locs ls G X hR hL hS)
theorem aw_dup2 {v u : AwV} (hd : decode F.2.1 pc = .ok (.dup2, 1)) (hv : ∀ x, v ≠ zl x) (hu : ∀ x, u ≠ zl x) (k : AW F cells slots sz (pc + 1) lv (v :: u :: v :: u :: st) I J R) : AW F cells slots sz (pc) lv (v :: u :: st) I J R := by
  intro p l e s m args below meth c H locs ls G X hR hL hS
  exact lv_dup2_11 X.1 X.2.1 hd (z_c1 _ hv) (z_c1 _ hu) (k p l e s m args below meth c H locs ls G X hR hL hS)
theorem aw_tbl_out {dflt lo hi : Int} {offs : Array Int} {len : Nat} {x : Int} {tgt : Nat} (hd : decode F.2.1 pc = .ok (.tableswitch dflt lo hi offs, len)) (hx : -2147483648 ≤ x ∧ x ≤ 2147483647) (h : x < lo ∨ hi < x) (ht : (pc : Int) + dflt = (tgt : Int)) (k : AW F cells slots sz (tgt) lv (st) I J R) : AW F cells slots sz (pc) lv (zi x :: st) I J R := by
  intro p l e s m args below meth c H locs ls G X hR hL hS
  exact lv_tableOut X.1 X.2.1 hd (by rw [Int32.toInt_ofInt_of_le (by omega) (by omega)]; exact h) ht (k p l e s m args below meth c H locs ls G X hR hL hS)
theorem aw_tbl_in {dflt lo hi : Int} {offs : Array Int} {len : Nat} {x off : Int} {tgt : Nat} (hd : decode F.2.1 pc = .ok (.tableswitch dflt lo hi offs, len)) (hx : -2147483648 ≤ x ∧ x ≤ 2147483647) (h : lo ≤ x ∧ x ≤ hi) (ho : offs[(x - lo).toNat]? = some off) (ht : (pc : Int) + off = (tgt : Int)) (k : AW F cells slots sz (tgt) lv (st) I J R) : AW F cells slots sz (pc) lv (zi x :: st) I J R := by
  intro p l e s m args below meth c H locs ls G X hR hL hS
  have e1 : (Int32.ofInt x).toInt = x := Int32.toInt_ofInt_of_le (by omega) (by omega)
  exact lv_tableIn X.1 X.2.1 hd (by rw [e1]; omega) (by rw [e1]; omega) (by rw [e1]; exact ho) ht (k p l e s m args below meth c H locs ls G X hR hL hS)
theorem z_ofN (n : Nat) : Int32.ofInt (n : Int) = nI n := Int32.ofInt_eq_ofNat
theorem z_and (a b : Nat) : nI a &&& nI b = nI (a &&& b) := by
  show Int32.ofNat a &&& Int32.ofNat b = Int32.ofNat (a &&& b)
  apply Int32.toBitVec_inj.1
  simp [BitVec.ofNat_and]
theorem z_or (a b : Nat) : nI a ||| nI b = nI (a ||| b) := by
  show Int32.ofNat a ||| Int32.ofNat b = Int32.ofNat (a ||| b)
  apply Int32.toBitVec_inj.1
  simp [BitVec.ofNat_or]
theorem z_xor (a b : Nat) : nI a ^^^ nI b = nI (a ^^^ b) := by
  show Int32.ofNat a ^^^ Int32.ofNat b = Int32.ofNat (a ^^^ b)
  apply Int32.toBitVec_inj.1
  simp [BitVec.ofNat_xor]
theorem aw_iand {x y : Int} {a b : Nat} (hd : decode F.2.1 pc = .ok (.iand, 1)) (hx : x = (a : Int)) (hy : y = (b : Int)) (k : AW F cells slots sz (pc + 1) lv (zi ((a &&& b : Nat) : Int) :: st) I J R) : AW F cells slots sz (pc) lv (zi y :: zi x :: st) I J R := by
  subst hx hy
  intro p l e s m args below meth c H locs ls G X hR hL hS
  have K := k p l e s m args below meth c H locs ls G X hR hL hS
  rw [List.map_cons, show z_cv G.2.2 (zi ((a &&& b : Nat) : Int)) = Value.int (Int32.ofInt (a : Int) &&& Int32.ofInt (b : Int)) from congrArg Value.int (by rw [z_ofN, z_ofN, z_ofN, z_and])] at K
  exact lv_iand X.1 X.2.1 hd K
theorem aw_ior {x y : Int} {a b : Nat} (hd : decode F.2.1 pc = .ok (.ior, 1)) (hx : x = (a : Int)) (hy : y = (b : Int)) (k : AW F cells slots sz (pc + 1) lv (zi ((a ||| b : Nat) : Int) :: st) I J R) : AW F cells slots sz (pc) lv (zi y :: zi x :: st) I J R := by
  subst hx hy
  intro p l e s m args below meth c H locs ls G X hR hL hS
  have K := k p l e s m args below meth c H locs ls G X hR hL hS
  rw [List.map_cons, show z_cv G.2.2 (zi ((a ||| b : Nat) : Int)) = Value.int (Int32.ofInt (a : Int) ||| Int32.ofInt (b : Int)) from congrArg Value.int (by rw [z_ofN, z_ofN, z_ofN, z_or])] at K
  exact lv_ior X.1 X.2.1 hd K
theorem aw_ixor {x y : Int} {a b : Nat} (hd : decode F.2.1 pc = .ok (.ixor, 1)) (hx : x = (a : Int)) (hy : y = (b : Int)) (k : AW F cells slots sz (pc + 1) lv (zi ((a ^^^ b : Nat) : Int) :: st) I J R) : AW F cells slots sz (pc) lv (zi y :: zi x :: st) I J R := by
  subst hx hy
  intro p l e s m args below meth c H locs ls G X hR hL hS
  have K := k p l e s m args below meth c H locs ls G X hR hL hS
  rw [List.map_cons, show z_cv G.2.2 (zi ((a ^^^ b : Nat) : Int)) = Value.int (Int32.ofInt (a : Int) ^^^ Int32.ofInt (b : Int)) from congrArg Value.int (by rw [z_ofN, z_ofN, z_ofN, z_xor])] at K
  exact lv_ixor X.1 X.2.1 hd K
theorem z_not (x : Int) : Int32.ofInt x ^^^ Int32.ofInt (-1) = Int32.ofInt (-x - 1) := by
  have h1 : Int32.ofInt (-1) = -1 := rfl
  rw [h1]
  have h2 : Int32.ofInt (-x - 1) = -(Int32.ofInt x) - 1 := by rw [Int32.ofInt_sub, Int32.ofInt_neg]; rfl
  rw [h2]
  generalize Int32.ofInt x = y
  apply Int32.toBitVec_inj.1
  show y.toBitVec ^^^ (-1 : Int32).toBitVec = -y.toBitVec - 1#32
  rw [show (-1 : Int32).toBitVec = BitVec.allOnes 32 from rfl, BitVec.xor_allOnes, BitVec.not_eq_neg_add]
theorem aw_inot {x : Int} (hd : decode F.2.1 pc = .ok (.ixor, 1)) (k : AW F cells slots sz (pc + 1) lv (zi (-x - 1) :: st) I J R) : AW F cells slots sz (pc) lv (zi (-1) :: zi x :: st) I J R := by
  intro p l e s m args below meth c H locs ls G X hR hL hS
  have K := k p l e s m args below meth c H locs ls G X hR hL hS
  rw [List.map_cons, show z_cv G.2.2 (zi (-x - 1)) = Value.int (Int32.ofInt x ^^^ Int32.ofInt (-1)) from congrArg Value.int (z_not x).symm] at K
  exact lv_ixor X.1 X.2.1 hd K
theorem aw_shl1 {n : Int} {w : Nat} (hd : decode F.2.1 pc = .ok (.ishl, 1)) (hn : n = (w : Int)) (hm : w < 31) (k : AW F cells slots sz (pc + 1) lv (zi ((2 ^ w : Nat) : Int) :: st) I J R) : AW F cells slots sz (pc) lv (zi n :: zi 1 :: st) I J R := by
  subst hn
  intro p l e s m args below meth c H locs ls G X hR hL hS
  have K := k p l e s m args below meth c H locs ls G X hR hL hS
  have e1 : ∀ w : Nat, w < 31 → Int32.ofInt ((2 ^ w : Nat) : Int) = Int32.ofInt 1 <<< (Int32.ofInt (w : Int) &&& 31) := by decide +kernel
  rw [List.map_cons, show z_cv G.2.2 (zi ((2 ^ w : Nat) : Int)) = Value.int (Int32.ofInt 1 <<< (Int32.ofInt (w : Int) &&& 31)) from congrArg Value.int (e1 w hm)] at K
  exact lv_ishl X.1 X.2.1 hd K
theorem aw_shr {x n : Int} {a w : Nat} (hd : decode F.2.1 pc = .ok (.ishr, 1)) (hx : x = (a : Int)) (hn : n = (w : Int)) (ha : a < 2147483648) (hm : w < 31) (k : AW F cells slots sz (pc + 1) lv (zi ((a / 2 ^ w : Nat) : Int) :: st) I J R) : AW F cells slots sz (pc) lv (zi n :: zi x :: st) I J R := by
  subst hx hn
  intro p l e s m args below meth c H locs ls G X hR hL hS
  have K := k p l e s m args below meth c H locs ls G X hR hL hS
  have e1 : ∀ m : Nat, m < 31 → ((nI m &&& 31).toBitVec.smod 32).toNat = m := by decide +kernel
  rw [List.map_cons, show z_cv G.2.2 (zi ((a / 2 ^ w : Nat) : Int)) = Value.int (Int32.ofInt (a : Int) >>> (Int32.ofInt (w : Int) &&& 31)) from congrArg Value.int (by rw [z_ofN, z_ofN, z_ofN]; exact (pk_shrN (by omega) _ w (e1 w hm)).symm)] at K
  exact lv_ishr X.1 X.2.1 hd K
theorem z_szb : ∀ a, a < 255 → (z_sh a).2 ≤ 2147483647 := by decide +kernel
theorem z_shn {a n k : Nat} (ha : a < 255) (h : z_sh a = (k, n)) : n ≤ 2147483647 := by have := z_szb a ha; rw [h] at this; exact this
theorem aw_iaload {a n : Nat} {i : Int} (hd : decode F.2.1 pc = .ok (.iaload, 1)) (ha : a < sz) (hz : sz ≤ 255) (hs : z_sh a = (0, n)) (hi : 0 ≤ i ∧ i < (n : Int)) (k : AW F cells slots sz (pc + 1) lv (zi (I a i.toNat) :: st) I J R) : AW F cells slots sz (pc) lv (zi i :: zr a :: st) I J R := by
  intro p l e s m args below meth c H locs ls G X hR hL hS
  have hn := z_shn (by omega) hs
  have hc := (hR.2.2 a ha).1 n hs
  have hin := i32in hi hn
  exact W.iald (v := .int (Int32.ofInt (I a i.toNat))) X.1 X.2.1 hc ((X.2.2.2.2.2.2.2.1.1.2 0 _ rfl).1 n (fun j => .int (Int32.ofInt (I a j)))) (fun q => by cases q) (by show ¬ (_ < 0 ∨ (arrV _ _ _).slots.size ≤ _); rw [arrV_size]; exact hin) (by show (arrV _ _ _).slots[_]? = _; rw [i32cl (by omega), arrV_read _ _ (by omega)]) rfl rfl hd (k p l e s m args below meth c H locs ls G X hR hL hS)
theorem aw_laload {a n : Nat} {i : Int} (hd : decode F.2.1 pc = .ok (.laload, 1)) (ha : a < sz) (hz : sz ≤ 255) (hs : z_sh a = (1, n)) (hi : 0 ≤ i ∧ i < (n : Int)) (k : AW F cells slots sz (pc + 1) lv (zl (J a i.toNat) :: st) I J R) : AW F cells slots sz (pc) lv (zi i :: zr a :: st) I J R := by
  intro p l e s m args below meth c H locs ls G X hR hL hS
  have hn := z_shn (by omega) hs
  have hc := (hR.2.2 a ha).2.1 n hs
  have hin := i32in hi hn
  exact W.lald (v := .long (Int64.ofInt (J a i.toNat))) X.1 X.2.1 hc ((X.2.2.2.2.2.2.2.1.1.2 1 _ rfl).1 n (fun j => .long (Int64.ofInt (J a j)))) (fun q => by cases q) (by show ¬ (_ < 0 ∨ (arrV _ _ _).slots.size ≤ _); rw [arrV_size]; exact hin) (by show (arrV _ _ _).slots[_]? = _; rw [i32cl (by omega), arrV_read _ _ (by omega)]) rfl rfl hd (k p l e s m args below meth c H locs ls G X hR hL hS)
theorem aw_aaloadQ {a n b : Nat} {i : Int} (hd : decode F.2.1 pc = .ok (.aaload, 1)) (ha : a < sz) (hz : sz ≤ 255) (hs : z_sh a = (2, n)) (hi : 0 ≤ i ∧ i < (n : Int)) (hr : R a i.toNat = some b) (k : AW F cells slots sz (pc + 1) lv (zr b :: st) I J R) : AW F cells slots sz (pc) lv (zi i :: zr a :: st) I J R := by
  intro p l e s m args below meth c H locs ls G X hR hL hS
  have hn := z_shn (by omega) hs
  have hc := (hR.2.2 a ha).2.2.1 n hs
  have hin := i32in hi hn
  exact W.aald (v := z_rf G.2.2 (some b)) (ty := .object "CutProofs$Cut") X.1 X.2.1 hc ((X.2.2.2.2.2.2.2.1.1.2 2 _ rfl).1 n (fun j => z_rf G.2.2 (R a j))) rfl (fun q => by cases q) (by show ¬ (_ < 0 ∨ (arrV _ _ _).slots.size ≤ _); rw [arrV_size]; exact hin) (by show (arrV _ _ _).slots[_]? = _; rw [i32cl (by omega), arrV_read _ _ (by omega), hr]) rfl rfl hd (k p l e s m args below meth c H locs ls G X hR hL hS)
theorem aw_aaloadG {a n b : Nat} {i : Int} (hd : decode F.2.1 pc = .ok (.aaload, 1)) (ha : a < sz) (hz : sz ≤ 255) (hs : z_sh a = (3, n)) (hi : 0 ≤ i ∧ i < (n : Int)) (hr : R a i.toNat = some b) (k : AW F cells slots sz (pc + 1) lv (zr b :: st) I J R) : AW F cells slots sz (pc) lv (zi i :: zr a :: st) I J R := by
  intro p l e s m args below meth c H locs ls G X hR hL hS
  have hn := z_shn (by omega) hs
  have hc := (hR.2.2 a ha).2.2.2.1 n hs
  have hin := i32in hi hn
  exact W.aald (v := z_rf G.2.2 (some b)) (ty := .array .int) X.1 X.2.1 hc ((X.2.2.2.2.2.2.2.1.1.2 3 _ rfl).1 n (fun j => z_rf G.2.2 (R a j))) rfl (fun q => by cases q) (by show ¬ (_ < 0 ∨ (arrV _ _ _).slots.size ≤ _); rw [arrV_size]; exact hin) (by show (arrV _ _ _).slots[_]? = _; rw [i32cl (by omega), arrV_read _ _ (by omega), hr]) rfl rfl hd (k p l e s m args below meth c H locs ls G X hR hL hS)
theorem aw_alen {a n kd : Nat} (hd : decode F.2.1 pc = .ok (.arraylength, 1)) (ha : a < sz) (hz : sz ≤ 255) (hs : z_sh a = (kd, n)) (hk : kd = 0 ∨ kd = 2) (k : AW F cells slots sz (pc + 1) lv (zi (n : Int) :: st) I J R) : AW F cells slots sz (pc) lv (zr a :: st) I J R := by
  intro p l e s m args below meth c H locs ls G X hR hL hS
  have e1 : ∀ (cA : ClassId) (f : Nat → Value), (arrV cA n f).slots.size.toInt32 = Int32.ofInt (n : Int) := fun cA f => by rw [arrV_size]; exact Int32.ofInt_eq_ofNat.symm
  rcases hk with rfl | rfl
  · exact W.alen X.1 X.2.1 ((hR.2.2 a ha).1 n hs) ((X.2.2.2.2.2.2.2.1.1.2 0 _ rfl).1 n _) (e1 _ _) rfl rfl hd (k p l e s m args below meth c H locs ls G X hR hL hS)
  · exact W.alen X.1 X.2.1 ((hR.2.2 a ha).2.2.1 n hs) ((X.2.2.2.2.2.2.2.1.1.2 2 _ rfl).1 n _) (e1 _ _) rfl rfl hd (k p l e s m args below meth c H locs ls G X hR hL hS)
theorem z_at.upI {G : ZG} {I J : AwI} {R : AwR} {H H1 : Heap} {a a' k : Nat} {x : Int} (h : z_at G I J R H a') (hne : a' ≠ a) (oq : ∀ q, q ≠ G.2.2 + a → H1[q]? = H[q]?) : z_at G (z_up I a k x) J R H1 a' := by
  have hq : H1[G.2.2 + a']? = H[G.2.2 + a']? := oq _ (by omega)
  refine ⟨fun n hs => ?_, fun n hs => by rw [hq]; exact h.2.1 n hs, fun n hs => by rw [hq]; exact h.2.2.1 n hs, fun n hs => by rw [hq]; exact h.2.2.2.1 n hs, fun c n hs => ?_⟩
  · rw [hq, h.1 n hs]
    congr 2
    funext j
    rw [z_up_a _ _ hne]
  · refine ((h.2.2.2.2 c n hs).kept hq).to (fun j _ => ?_)
    rw [(z_rd_up I J R a (z_fk c j) k a' j hne x).1]
theorem z_at.upJ {G : ZG} {I J : AwI} {R : AwR} {H H1 : Heap} {a a' k : Nat} {x : Int} (h : z_at G I J R H a') (hne : a' ≠ a) (oq : ∀ q, q ≠ G.2.2 + a → H1[q]? = H[q]?) : z_at G I (z_up J a k x) R H1 a' := by
  have hq : H1[G.2.2 + a']? = H[G.2.2 + a']? := oq _ (by omega)
  refine ⟨fun n hs => by rw [hq]; exact h.1 n hs, fun n hs => ?_, fun n hs => by rw [hq]; exact h.2.2.1 n hs, fun n hs => by rw [hq]; exact h.2.2.2.1 n hs, fun c n hs => ?_⟩
  · rw [hq, h.2.1 n hs]
    congr 2
    funext j
    rw [z_up_a _ _ hne]
  · refine ((h.2.2.2.2 c n hs).kept hq).to (fun j _ => ?_)
    rw [(z_rd_up I J R a (z_fk c j) k a' j hne x).2]
theorem z_at.upR {G : ZG} {I J : AwI} {R : AwR} {H H1 : Heap} {a a' k : Nat} {x : Option Nat} (h : z_at G I J R H a') (hne : a' ≠ a) (oq : ∀ q, q ≠ G.2.2 + a → H1[q]? = H[q]?) : z_at G I J (z_up R a k x) H1 a' := by
  have hq : H1[G.2.2 + a']? = H[G.2.2 + a']? := oq _ (by omega)
  refine ⟨fun n hs => by rw [hq]; exact h.1 n hs, fun n hs => by rw [hq]; exact h.2.1 n hs, fun n hs => ?_, fun n hs => ?_, fun c n hs => ?_⟩
  · rw [hq, h.2.2.1 n hs]
    congr 2
    funext j
    rw [z_up_a _ _ hne]
  · rw [hq, h.2.2.2.1 n hs]
    congr 2
    funext j
    rw [z_up_a _ _ hne]
  · refine ((h.2.2.2.2 c n hs).kept hq).to (fun j _ => ?_)
    unfold z_rd
    rw [z_up_a _ _ hne]
theorem z_Sput {A : Nat → Prop} {H0 H H1 : Heap} {locs : List Loc} {a k : Nat} (h : va_S A H0 H locs) (z : H1.size = H.size) (oq : ∀ q : Nat, q ≠ a → H1[q]? = H[q]?) (ha : A a) : va_S A H0 H1 (locs ++ [⟨a, k⟩]) := h.put z oq ha
theorem aw_iastore {a n : Nat} {i x : Int} (hd : decode F.2.1 pc = .ok (.iastore, 1)) (ha : a < sz) (hz : sz ≤ 255) (hs : z_sh a = (0, n)) (hi : 0 ≤ i ∧ i < (n : Int)) (k : AW F cells slots sz (pc + 1) lv st (z_up I a i.toNat x) J R) : AW F cells slots sz (pc) lv (zi x :: zi i :: zr a :: st) I J R := by
  intro p l e s m args below meth c H locs ls G X hR hL hS
  have hn := z_shn (by omega) hs
  have hc := (hR.2.2 a ha).1 n hs
  have hin := i32in hi hn
  refine W.iast X.1 X.2.1 hc ((X.2.2.2.2.2.2.2.1.1.2 0 _ rfl).1 n (fun j => .int (Int32.ofInt (I a j)))) (fun q => by cases q) (by show ¬ (_ < 0 ∨ (arrV _ _ _).slots.size ≤ _); rw [arrV_size]; exact hin) rfl rfl hd fun H1 he hz1 oq => ?_
  refine k p l e s m args below meth c H1 _ ls G X ⟨fun q => by rw [hz1]; exact hR.1 q, by rw [hz1]; exact hR.2.1, fun a' ha' => ?_⟩ hL (z_Sput hS hz1 oq (Nat.le_add_right _ _))
  by_cases e : a' = a
  · subst e
    refine ⟨fun n2 hs2 => ?_, fun n2 hs2 => ?_, fun n2 hs2 => ?_, fun n2 hs2 => ?_, fun c2 n2 hs2 => ?_⟩
    all_goals (rw [hs] at hs2)
    all_goals (first | (cases hs2; done) | (injection hs2 with h1 h2; omega) | skip)
    cases hs2
    rw [he, i32cl (by omega), arrV_store]
    congr 2
    funext q
    by_cases hq : q = i.toNat
    · subst hq; simp [updV, z_up]
    · simp [updV, z_up, hq]
  · exact (hR.2.2 a' ha').upI e oq
theorem aw_lastore {a n : Nat} {i x : Int} (hd : decode F.2.1 pc = .ok (.lastore, 1)) (ha : a < sz) (hz : sz ≤ 255) (hs : z_sh a = (1, n)) (hi : 0 ≤ i ∧ i < (n : Int)) (k : AW F cells slots sz (pc + 1) lv st I (z_up J a i.toNat x) R) : AW F cells slots sz (pc) lv (zl x :: zi i :: zr a :: st) I J R := by
  intro p l e s m args below meth c H locs ls G X hR hL hS
  have hn := z_shn (by omega) hs
  have hc := (hR.2.2 a ha).2.1 n hs
  have hin := i32in hi hn
  refine W.last X.1 X.2.1 hc ((X.2.2.2.2.2.2.2.1.1.2 1 _ rfl).1 n (fun j => .long (Int64.ofInt (J a j)))) (fun q => by cases q) (by show ¬ (_ < 0 ∨ (arrV _ _ _).slots.size ≤ _); rw [arrV_size]; exact hin) rfl rfl hd fun H1 he hz1 oq => ?_
  refine k p l e s m args below meth c H1 _ ls G X ⟨fun q => by rw [hz1]; exact hR.1 q, by rw [hz1]; exact hR.2.1, fun a' ha' => ?_⟩ hL (z_Sput hS hz1 oq (Nat.le_add_right _ _))
  by_cases e : a' = a
  · subst e
    refine ⟨fun n2 hs2 => ?_, fun n2 hs2 => ?_, fun n2 hs2 => ?_, fun n2 hs2 => ?_, fun c2 n2 hs2 => ?_⟩
    all_goals (rw [hs] at hs2)
    all_goals (first | (cases hs2; done) | (injection hs2 with h1 h2; omega) | skip)
    cases hs2
    rw [he, i32cl (by omega), arrV_store]
    congr 2
    funext q
    by_cases hq : q = i.toNat
    · subst hq; simp [updV, z_up]
    · simp [updV, z_up, hq]
  · exact (hR.2.2 a' ha').upJ e oq
end AWR
end
section
def z_Cl (c : Nat) (C : String) (T : u_T) (ty : Nat → FieldType) : Prop := vwCl[c]? = some (C, T, z_cn c) ∧ (∀ w ∈ u_ws C T (z_cn c), w ∈ z_tb) ∧ (∀ k, k < z_cn c → parseFieldDescriptor (T k).2.2.1 = some (ty k)) ∧ (∀ a, a < z_cn c → ∀ b, b < z_cn c → a ≠ b → (T a).2.1 ≠ (T b).2.1)
def z_Fl (own : String) (idx c k : Nat) (fin : Bool) (t : FieldType) : Prop := ∃ (C : String) (T : u_T) (ty : Nat → FieldType), z_Cl c C T ty ∧ k < z_cn c ∧ Cond.fieldLink own idx (T k).1 (T k).2.1 (T k).2.2.1 ∈ z_tb ∧ (T k).2.2.2 = fin ∧ ty k = t ∧ (T k).1 = C
theorem z_gW {w : Cond} (h : w ∈ z_tb) : goodWord w = true := (List.mem_filter.mp h).2
theorem z_goodIn {d : ZD} (h : Cond.code d.1 d.2.1 d.2.2.1 d.2.2.2.1 ∈ z_tb) : GoodIn z_tb (z_ws d) := fun w hw => by
  rcases List.mem_cons.mp hw with rfl | hw
  · exact ⟨h, good_of_word (z_gW h)⟩
  · exact ⟨hw, good_of_word (z_gW hw)⟩
theorem z_blind {G : ZG} {as : List AwV} {sz : Nat} {I J : AwI} {R : AwR} : FrameBlind (z_Pc G as sz I J R) := by
  intro a U g mk h
  obtain ⟨h1, h2, h3⟩ := h
  exact ⟨h1, h2.blind, h3⟩
def z_c12 : AwV → Nat
  | .inr (.inl _) => 2
  | _ => 1
theorem z_c12_of (b : Nat) (v : AwV) : (z_cv b v).category = z_c12 v := by
  rcases v with x | x | r
  · rfl
  · rfl
  · cases r <;> rfl
theorem z_wid (b : Nat) (st : List AwV) (h : (st.map z_c12).sum ≤ 8) : ((st.map (z_cv b)).map fun v => v.category).sum ≤ 8 := by
  rw [List.map_map, show ((fun v : Value => v.category) ∘ z_cv b) = z_c12 from funext (z_c12_of b)]
  exact h
theorem z_vmap (b : Nat) (r : Option AwV) (st : List AwV) : (r.map (z_cv b)).toList ++ st.map (z_cv b) = (r.toList ++ st).map (z_cv b) := by
  cases r <;> rfl
section AWF
variable {F : ZF} {cells slots sz pc : Nat} {lv lv' : List (Option AwV)} {st stk : List AwV} {I J : AwI} {R : AwR}
theorem aw_getI {a c idx k : Nat} {fin : Bool} {t : FieldType} (hd : decode F.2.1 pc = .ok (.getfield idx, 3)) (hl : z_Fl F.1.cls idx c k fin t) (hf : z_fk c k = 0) (ha : a < sz) (hs : z_sh a = (c + 10, z_cn c)) (kk : AW F cells slots sz (pc + 3) lv (zi (I a k) :: st) I J R) : AW F cells slots sz (pc) lv (zr a :: st) I J R := by
  obtain ⟨C, T, ty, ⟨hc, hin, hty, hnm⟩, hk, hlink, -⟩ := hl
  intro p l e s m args below meth c0 H locs ls G X hR hL hS
  obtain ⟨cell, q1, q2, q3, q4⟩ := (hR.2.2 a ha).2.2.2.2 c _ hs
  obtain ⟨hS', hfc, kC, hkC, hkind⟩ := X.2.2.2.2.2.2.2.1.1.1 c _ hc
  obtain ⟨cf, kf, fi, f, hi, hsl⟩ := hS' k hk
  refine W.getf X.1 X.2.1 X.2.2.2.2.2.1 (X.2.2.2.2.2.2.1 _ hlink) hi (u_facts hfc hkC (u_lays X.2.2.2.2.2.2.1 hin hk) hi).1 q1 (by rw [q3]; exact fun h => by cases h) (v := z_cv G.2.2 (zi (I a k))) ?_ rfl rfl hd (kk p l e s m args below meth c0 H locs ls G X hR hL hS)
  rw [hsl, q4 k hk]
  show some (z_cv G.2.2 (z_rd I J R a (z_fk c k) k)) = _
  rw [hf]
  rfl
theorem aw_getJ {a c idx k : Nat} {fin : Bool} {t : FieldType} (hd : decode F.2.1 pc = .ok (.getfield idx, 3)) (hl : z_Fl F.1.cls idx c k fin t) (hf : z_fk c k = 1) (ha : a < sz) (hs : z_sh a = (c + 10, z_cn c)) (kk : AW F cells slots sz (pc + 3) lv (zl (J a k) :: st) I J R) : AW F cells slots sz (pc) lv (zr a :: st) I J R := by
  obtain ⟨C, T, ty, ⟨hc, hin, hty, hnm⟩, hk, hlink, -⟩ := hl
  intro p l e s m args below meth c0 H locs ls G X hR hL hS
  obtain ⟨cell, q1, q2, q3, q4⟩ := (hR.2.2 a ha).2.2.2.2 c _ hs
  obtain ⟨hS', hfc, kC, hkC, hkind⟩ := X.2.2.2.2.2.2.2.1.1.1 c _ hc
  obtain ⟨cf, kf, fi, f, hi, hsl⟩ := hS' k hk
  refine W.getf X.1 X.2.1 X.2.2.2.2.2.1 (X.2.2.2.2.2.2.1 _ hlink) hi (u_facts hfc hkC (u_lays X.2.2.2.2.2.2.1 hin hk) hi).1 q1 (by rw [q3]; exact fun h => by cases h) (v := z_cv G.2.2 (zl (J a k))) ?_ rfl rfl hd (kk p l e s m args below meth c0 H locs ls G X hR hL hS)
  rw [hsl, q4 k hk]
  show some (z_cv G.2.2 (z_rd I J R a (z_fk c k) k)) = _
  rw [hf]
  rfl
theorem aw_getR {a c idx k b : Nat} {fin : Bool} {t : FieldType} (hd : decode F.2.1 pc = .ok (.getfield idx, 3)) (hl : z_Fl F.1.cls idx c k fin t) (hf : z_fk c k = 2) (ha : a < sz) (hs : z_sh a = (c + 10, z_cn c)) (hr : R a k = some b) (kk : AW F cells slots sz (pc + 3) lv (zr b :: st) I J R) : AW F cells slots sz (pc) lv (zr a :: st) I J R := by
  obtain ⟨C, T, ty, ⟨hc, hin, hty, hnm⟩, hk, hlink, -⟩ := hl
  intro p l e s m args below meth c0 H locs ls G X hR hL hS
  obtain ⟨cell, q1, q2, q3, q4⟩ := (hR.2.2 a ha).2.2.2.2 c _ hs
  obtain ⟨hS', hfc, kC, hkC, hkind⟩ := X.2.2.2.2.2.2.2.1.1.1 c _ hc
  obtain ⟨cf, kf, fi, f, hi, hsl⟩ := hS' k hk
  refine W.getf X.1 X.2.1 X.2.2.2.2.2.1 (X.2.2.2.2.2.2.1 _ hlink) hi (u_facts hfc hkC (u_lays X.2.2.2.2.2.2.1 hin hk) hi).1 q1 (by rw [q3]; exact fun h => by cases h) (v := z_cv G.2.2 (zr b)) ?_ rfl rfl hd (kk p l e s m args below meth c0 H locs ls G X hR hL hS)
  rw [hsl, q4 k hk]
  show some (z_cv G.2.2 (z_rd I J R a (z_fk c k) k)) = _
  rw [hf]
  show some (z_cv G.2.2 (zq (R a k))) = _
  rw [hr]
theorem aw_putI {a c idx k : Nat} {x : Int} (hd : decode F.2.1 pc = .ok (.putfield idx, 3)) (hl : z_Fl F.1.cls idx c k false .int) (hf : z_fk c k = 0) (ha : a < sz) (hs : z_sh a = (c + 10, z_cn c)) (kk : AW F cells slots sz (pc + 3) lv st (z_up I a k x) J R) : AW F cells slots sz (pc) lv (zi x :: zr a :: st) I J R := by
  obtain ⟨C, T, ty, ⟨hc, hin, hty, hnm⟩, hk, hlink, hfin, htk, hdec⟩ := hl
  intro p l e s m args below meth c0 H locs ls G X hR hL hS
  have hts := X.2.2.2.2.2.2.1
  have hap := va_apart (own := C) hts hin ty hty hnm X.2.2.2.2.2.2.2.1.1 hc
  obtain ⟨cell, q1, q2, q3, q4⟩ := (hR.2.2 a ha).2.2.2.2 c _ hs
  obtain ⟨hS', hfc, kC, hkC, hkind⟩ := X.2.2.2.2.2.2.2.1.1.1 c _ hc
  obtain ⟨cf, kf, fi, f, hi, hsl⟩ := hS' k hk
  have hlay := hts _ (hin _ (u_in_lay hk))
  unfold u_lay at hlay
  rw [if_neg (by rw [hfin]; decide)] at hlay
  have hst := (u_facts hfc hkC (u_lays hts hin hk) hi).1
  have h6 := u_store (v := z_cv G.2.2 (zi x)) hfc hkC hkind hlay hi (by rw [hty k hk, htk]) (rfl) (rfl)
  refine W.putK (v := z_cv G.2.2 (zi x)) X.1 X.2.1 (f := f) ⟨X.2.2.2.2.2.1, hts _ hlink, ⟨_, _, _, hi⟩, hst⟩ (by rw [q2]; exact h6) q1 q3 (by rw [hsl]; exact k2_hasslot (q4 k hk)) rfl rfl hd fun H1 he hz1 oq => ?_
  refine kk p l e s m args below meth c0 H1 _ ls G X ⟨fun q => by rw [hz1]; exact hR.1 q, by rw [hz1]; exact hR.2.1, fun a' ha' => ?_⟩ hL (z_Sput hS hz1 oq (Nat.le_add_right _ _))
  by_cases e1 : a' = a
  · subst e1
    refine ⟨fun n2 hs2 => ?_, fun n2 hs2 => ?_, fun n2 hs2 => ?_, fun n2 hs2 => ?_, fun c2 n2 hs2 => ?_⟩
    all_goals (rw [hs] at hs2)
    all_goals (first | (cases hs2; done) | (injection hs2 with h1 h2; omega) | skip)
    obtain ⟨h1, h2⟩ := Prod.mk.inj hs2
    have h1 : c2 = c := by omega
    subst h1
    subst h2
    rw [hsl] at he
    refine t_OB.to (V := updV (fun j => z_cv G.2.2 (z_rd I J R a' (z_fk c2 j) j)) k (z_cv G.2.2 (zi x))) ⟨_, he, q2, q3, t_set q4 hap hk _⟩ (fun j _ => ?_)
    by_cases hj : j = k
    · subst hj; simp [updV, hf, z_rd, z_up_s]
    · simp [updV, hj, z_rd, z_up_k _ _ hj]
  · exact (hR.2.2 a' ha').upI e1 oq
theorem aw_putZ {a c idx k : Nat} {x : Int} (hd : decode F.2.1 pc = .ok (.putfield idx, 3)) (hl : z_Fl F.1.cls idx c k false .boolean) (hf : z_fk c k = 0) (ha : a < sz) (hs : z_sh a = (c + 10, z_cn c)) (hx : x = 0 ∨ x = 1) (kk : AW F cells slots sz (pc + 3) lv st (z_up I a k x) J R) : AW F cells slots sz (pc) lv (zi x :: zr a :: st) I J R := by
  obtain ⟨C, T, ty, ⟨hc, hin, hty, hnm⟩, hk, hlink, hfin, htk, hdec⟩ := hl
  intro p l e s m args below meth c0 H locs ls G X hR hL hS
  have hts := X.2.2.2.2.2.2.1
  have hap := va_apart (own := C) hts hin ty hty hnm X.2.2.2.2.2.2.2.1.1 hc
  obtain ⟨cell, q1, q2, q3, q4⟩ := (hR.2.2 a ha).2.2.2.2 c _ hs
  obtain ⟨hS', hfc, kC, hkC, hkind⟩ := X.2.2.2.2.2.2.2.1.1.1 c _ hc
  obtain ⟨cf, kf, fi, f, hi, hsl⟩ := hS' k hk
  have hlay := hts _ (hin _ (u_in_lay hk))
  unfold u_lay at hlay
  rw [if_neg (by rw [hfin]; decide)] at hlay
  have hst := (u_facts hfc hkC (u_lays hts hin hk) hi).1
  have h6 := u_store (v := z_cv G.2.2 (zi x)) hfc hkC hkind hlay hi (by rw [hty k hk, htk]) (by rcases hx with rfl | rfl <;> rfl) (by rcases hx with rfl | rfl <;> rfl)
  refine W.putK (v := z_cv G.2.2 (zi x)) X.1 X.2.1 (f := f) ⟨X.2.2.2.2.2.1, hts _ hlink, ⟨_, _, _, hi⟩, hst⟩ (by rw [q2]; exact h6) q1 q3 (by rw [hsl]; exact k2_hasslot (q4 k hk)) rfl rfl hd fun H1 he hz1 oq => ?_
  refine kk p l e s m args below meth c0 H1 _ ls G X ⟨fun q => by rw [hz1]; exact hR.1 q, by rw [hz1]; exact hR.2.1, fun a' ha' => ?_⟩ hL (z_Sput hS hz1 oq (Nat.le_add_right _ _))
  by_cases e1 : a' = a
  · subst e1
    refine ⟨fun n2 hs2 => ?_, fun n2 hs2 => ?_, fun n2 hs2 => ?_, fun n2 hs2 => ?_, fun c2 n2 hs2 => ?_⟩
    all_goals (rw [hs] at hs2)
    all_goals (first | (cases hs2; done) | (injection hs2 with h1 h2; omega) | skip)
    obtain ⟨h1, h2⟩ := Prod.mk.inj hs2
    have h1 : c2 = c := by omega
    subst h1
    subst h2
    rw [hsl] at he
    refine t_OB.to (V := updV (fun j => z_cv G.2.2 (z_rd I J R a' (z_fk c2 j) j)) k (z_cv G.2.2 (zi x))) ⟨_, he, q2, q3, t_set q4 hap hk _⟩ (fun j _ => ?_)
    by_cases hj : j = k
    · subst hj; simp [updV, hf, z_rd, z_up_s]
    · simp [updV, hj, z_rd, z_up_k _ _ hj]
  · exact (hR.2.2 a' ha').upI e1 oq
theorem aw_putJ {a c idx k : Nat} {x : Int} (hd : decode F.2.1 pc = .ok (.putfield idx, 3)) (hl : z_Fl F.1.cls idx c k false .long) (hf : z_fk c k = 1) (ha : a < sz) (hs : z_sh a = (c + 10, z_cn c)) (kk : AW F cells slots sz (pc + 3) lv st I (z_up J a k x) R) : AW F cells slots sz (pc) lv (zl x :: zr a :: st) I J R := by
  obtain ⟨C, T, ty, ⟨hc, hin, hty, hnm⟩, hk, hlink, hfin, htk, hdec⟩ := hl
  intro p l e s m args below meth c0 H locs ls G X hR hL hS
  have hts := X.2.2.2.2.2.2.1
  have hap := va_apart (own := C) hts hin ty hty hnm X.2.2.2.2.2.2.2.1.1 hc
  obtain ⟨cell, q1, q2, q3, q4⟩ := (hR.2.2 a ha).2.2.2.2 c _ hs
  obtain ⟨hS', hfc, kC, hkC, hkind⟩ := X.2.2.2.2.2.2.2.1.1.1 c _ hc
  obtain ⟨cf, kf, fi, f, hi, hsl⟩ := hS' k hk
  have hlay := hts _ (hin _ (u_in_lay hk))
  unfold u_lay at hlay
  rw [if_neg (by rw [hfin]; decide)] at hlay
  have hst := (u_facts hfc hkC (u_lays hts hin hk) hi).1
  have h6 := u_store (v := z_cv G.2.2 (zl x)) hfc hkC hkind hlay hi (by rw [hty k hk, htk]) (rfl) (rfl)
  refine W.putK (v := z_cv G.2.2 (zl x)) X.1 X.2.1 (f := f) ⟨X.2.2.2.2.2.1, hts _ hlink, ⟨_, _, _, hi⟩, hst⟩ (by rw [q2]; exact h6) q1 q3 (by rw [hsl]; exact k2_hasslot (q4 k hk)) rfl rfl hd fun H1 he hz1 oq => ?_
  refine kk p l e s m args below meth c0 H1 _ ls G X ⟨fun q => by rw [hz1]; exact hR.1 q, by rw [hz1]; exact hR.2.1, fun a' ha' => ?_⟩ hL (z_Sput hS hz1 oq (Nat.le_add_right _ _))
  by_cases e1 : a' = a
  · subst e1
    refine ⟨fun n2 hs2 => ?_, fun n2 hs2 => ?_, fun n2 hs2 => ?_, fun n2 hs2 => ?_, fun c2 n2 hs2 => ?_⟩
    all_goals (rw [hs] at hs2)
    all_goals (first | (cases hs2; done) | (injection hs2 with h1 h2; omega) | skip)
    obtain ⟨h1, h2⟩ := Prod.mk.inj hs2
    have h1 : c2 = c := by omega
    subst h1
    subst h2
    rw [hsl] at he
    refine t_OB.to (V := updV (fun j => z_cv G.2.2 (z_rd I J R a' (z_fk c2 j) j)) k (z_cv G.2.2 (zl x))) ⟨_, he, q2, q3, t_set q4 hap hk _⟩ (fun j _ => ?_)
    by_cases hj : j = k
    · subst hj; simp [updV, hf, z_rd, z_up_s]
    · simp [updV, hj, z_rd, z_up_k _ _ hj]
  · exact (hR.2.2 a' ha').upJ e1 oq
def z_Cv (d : ZD) (n : Nat) : Prop := Cond.code d.1 d.2.1 d.2.2.1 d.2.2.2.1 ∈ z_tb ∧ Cond.instanceMethod d.1 ∈ z_tb ∧ Cond.selects d.1.cls d.1 d.1 ∈ z_tb ∧ Cond.initialized d.1.cls ∈ z_tb ∧ (d.1.cls ≠ "java/lang/invoke/MethodHandle" ∧ d.1.cls ≠ "java/lang/invoke/VarHandle") ∧ (parseMethodDescriptor d.1.desc).map (fun d => d.parameters.length) = some n
def z_Cs (d : ZD) (n : Nat) : Prop := Cond.code d.1 d.2.1 d.2.2.1 d.2.2.2.1 ∈ z_tb ∧ Cond.static d.1 ∈ z_tb ∧ Cond.initialized d.1.cls ∈ z_tb ∧ (d.1.cls ≠ "java/lang/invoke/MethodHandle" ∧ d.1.cls ≠ "java/lang/invoke/VarHandle") ∧ (parseMethodDescriptor d.1.desc).map (fun d => d.parameters.length) = some n
def z_Rm (d : ZD) (F : ZF) : Prop := d.2.2.2.2.frames + 1 ≤ F.2.2.2.2.1.frames ∧ 8 + (d.2.2.1 + 11) + d.2.2.2.2.locals ≤ F.2.2.2.2.1.locals
theorem z_sig {y : MethodName} {n : Nat} (h : (parseMethodDescriptor y.desc).map (fun d => d.parameters.length) = some n) : ∀ sig, parseMethodDescriptor y.desc = some sig → n = sig.parameters.length := fun sig hs => by
  rw [hs] at h
  exact (Option.some.inj h).symm
theorem aw_back {d : ZD} {Q : ZQ} {p : Program} {l : Launch} {e : Env} {s : State} {m : MethodId} {args a : Array Value} {below : List Frame} {meth : Method} {c : Code} {H : Heap} {locs : List Loc} {ls : Array Slot} {G : ZG} {st0 : List Value} (X : z_X F p s m args meth c G) (hL : z_Lo G.2.2 ls F.2.2.1 lv) (hS : va_S (fun q => G.2.2 ≤ q) s.heap H locs)
    (hr : va_Run p l e F.2.2.2.2.1 s m args below meth c H locs cells slots d.2.2.2.2.cells d.2.2.2.2.slots (F0 m pc ls st0) (st.map (z_cv G.2.2)) (z_Qc G Q a) (fun q => G.2.2 ≤ q))
    (kk : ∀ r sz' I' J' R', Q r sz' I' J' R' → AW F (cells + d.2.2.2.2.cells) (slots + d.2.2.2.2.slots) sz' (pc + 3) lv (r.toList ++ st) I' J' R') : W p l e F.2.2.2.2.1 s m args below meth c H locs cells slots (F.2.2.2.2.2 G args s below) (F0 m pc ls st0) := by
  intro T hT XS
  obtain ⟨v, st₀, t, T', L, h0, X', hL', e1, e2, ⟨⟨r, sz2, I2, J2, R2, hv, hq, hR2⟩, hz, hk⟩, go⟩ := hr T hT XS
  rw [h0] at hz hk
  have hv : v = r.map (z_cv G.2.2) := Outcome.returned.inj hv
  subst hv
  obtain ⟨t2, a1, b1⟩ := kk r sz2 I2 J2 R2 hq p l e s m args below meth c T'.heap (locs ++ L) ls G X (by rw [e1]; exact hR2) hL
    ⟨Nat.le_trans hS.1 (by rw [e1]; exact hz), fun q h1 h2 => by rw [e1, hk q (Nat.lt_of_lt_of_le h1 hS.1) h2]; exact hS.2.1 q h1 h2, fun q hq => by
      rcases List.mem_append.mp hq with h | h
      · exact hS.2.2 q h
      · exact hL' q h⟩ T' rfl X'
  refine ⟨t2, go t2 ?_, b1⟩
  show Steps _ _ _ (T'.setTop (F0 m (pc + 3) ls _)) _
  rw [z_vmap]
  exact a1
theorem aw_invV {d : ZD} {As : List AwV} {a c idx n : Nat} {Q : ZQ} (hM : CT d (zr a :: As) sz I J R Q) (hc : z_Cv d n) (hd : decode F.2.1 pc = .ok (.invokevirtual idx, 3)) (hl : Cond.methodLink F.1.cls idx d.1 ∈ z_tb) (hn : As.length = n) (ha : a < sz) (hs : z_sh a = (c + 10, z_cn c)) (hC : (vwCl[c]?).map (fun q => q.1) = some d.1.cls) (hrm : z_Rm d F) (hce : cells + d.2.2.2.2.cells ≤ F.2.2.2.2.1.cells ∧ slots + d.2.2.2.2.slots ≤ F.2.2.2.2.1.slots) (hst : stk = As.reverse ++ zr a :: st) (hw : (st.map z_c12).sum ≤ 8)
    (kk : ∀ r sz' I' J' R', Q r sz' I' J' R' → AW F (cells + d.2.2.2.2.cells) (slots + d.2.2.2.2.slots) sz' (pc + 3) lv (r.toList ++ st) I' J' R') : AW F cells slots sz pc lv stk I J R := by
  intro p l e s m args below meth c0 H locs ls G X hR hL hS
  subst hst
  obtain ⟨h1, h2, h3, h4, h5, h6⟩ := hc
  have hts := X.2.2.2.2.2.2.1
  obtain ⟨⟨C, T, N⟩, hcl, hC⟩ := Option.map_eq_some_iff.mp hC
  have hC : C = d.1.cls := hC
  subst hC
  obtain ⟨cell, q1, q2, q3, q4⟩ := (hR.2.2 a ha).2.2.2.2 c _ hs
  have hcls : s.vm.findClass d.1.cls = some cell.cls := by rw [q2]; exact (X.2.2.2.2.2.2.2.1.1.1 c _ hcl).2.1
  refine aw_back (d := d) X hL hS (va_runV (Ts := z_tb) (own := F.1.cls) (C := d.1.cls) (b := G.2.2 + a) (As := As.map (z_cv G.2.2)) (rest := st.map (z_cv G.2.2)) (bytes := d.2.1) (maxL := d.2.2.1) (ret := d.2.2.2.1) (n := n) ⟨X.1, X.2.1, X.2.2.1, X.2.2.2.2.2.1, hts⟩ (hM l G) ⟨⟨rfl, rfl, hrm.1, hrm.2, pay_in hts (z_goodIn h1), List.mem_cons_self, hts _ h1, hts _ h4, h5, z_sig h6, hts _ hl⟩, hts _ h2, hts _ h3⟩ ⟨z_blind, ⟨cell, q1, by rw [q3]; rfl, hcls⟩, fun U hU hW => ⟨rfl, X.2.2.2.2.2.2.2.1.moved hW, by rw [hU]; exact hR⟩⟩ rfl (by rw [List.length_map]; exact hn) (hL.2.1) (by simp [z_cv, z_rf]) (lv_room (z_wid _ _ hw)) hd hce) kk
theorem aw_invS {d : ZD} {As : List AwV} {idx n : Nat} {Q : ZQ} (hM : CT d As sz I J R Q) (hc : z_Cs d n) (hd : decode F.2.1 pc = .ok (.invokestatic idx, 3)) (hl : Cond.methodLink F.1.cls idx d.1 ∈ z_tb) (hn : As.length = n) (hrm : z_Rm d F) (hce : cells + d.2.2.2.2.cells ≤ F.2.2.2.2.1.cells ∧ slots + d.2.2.2.2.slots ≤ F.2.2.2.2.1.slots) (hst : stk = As.reverse ++ st) (hw : (st.map z_c12).sum ≤ 8)
    (kk : ∀ r sz' I' J' R', Q r sz' I' J' R' → AW F (cells + d.2.2.2.2.cells) (slots + d.2.2.2.2.slots) sz' (pc + 3) lv (r.toList ++ st) I' J' R') : AW F cells slots sz pc lv stk I J R := by
  intro p l e s m args below meth c0 H locs ls G X hR hL hS
  subst hst
  obtain ⟨h1, h2, h4, h5, h6⟩ := hc
  have hts := X.2.2.2.2.2.2.1
  refine aw_back (d := d) X hL hS (va_runS (Ts := z_tb) (own := F.1.cls) (As := As.map (z_cv G.2.2)) (rest := st.map (z_cv G.2.2)) (bytes := d.2.1) (maxL := d.2.2.1) (ret := d.2.2.2.1) (n := n) ⟨X.1, X.2.1, X.2.2.1, X.2.2.2.2.2.1, hts⟩ (hM l G) ⟨⟨rfl, rfl, hrm.1, hrm.2, pay_in hts (z_goodIn h1), List.mem_cons_self, hts _ h1, hts _ h4, h5, z_sig h6, hts _ hl⟩, hts _ h2⟩ ⟨z_blind, fun U hU hW => ⟨rfl, X.2.2.2.2.2.2.2.1.moved hW, by rw [hU]; exact hR⟩⟩ rfl (by rw [List.length_map]; exact hn) (hL.2.1) (by simp) (lv_room (z_wid _ _ hw)) hd hce) kk
theorem aw_invSN {d : ZD} {As : List AwV} {idx n : Nat} {Q : ZQ} {host : String} (hM : CT d As sz I J R Q) (hc : z_Cs d n) (hd : decode F.2.1 pc = .ok (.invokestatic idx, 3)) (hl : Cond.methodLinkNest F.1.cls idx d.1 host ∈ z_nl) (hn : As.length = n) (hrm : z_Rm d F) (hce : cells + d.2.2.2.2.cells ≤ F.2.2.2.2.1.cells ∧ slots + d.2.2.2.2.slots ≤ F.2.2.2.2.1.slots) (hst : stk = As.reverse ++ st) (hw : (st.map z_c12).sum ≤ 8)
    (kk : ∀ r sz' I' J' R', Q r sz' I' J' R' → AW F (cells + d.2.2.2.2.cells) (slots + d.2.2.2.2.slots) sz' (pc + 3) lv (r.toList ++ st) I' J' R') : AW F cells slots sz pc lv stk I J R := by
  intro p l e s m args below meth c0 H locs ls G X hR hL hS
  subst hst
  obtain ⟨h1, h2, h4, h5, h6⟩ := hc
  have hts := X.2.2.2.2.2.2.1
  refine aw_back (d := d) X hL hS (va_runSN (host := host) (Ts := z_tb) (own := F.1.cls) (As := As.map (z_cv G.2.2)) (rest := st.map (z_cv G.2.2)) (bytes := d.2.1) (maxL := d.2.2.1) (ret := d.2.2.2.1) (n := n) ⟨X.1, X.2.1, X.2.2.1, X.2.2.2.2.2.1, hts⟩ (hM l G) ⟨⟨⟨rfl, rfl, hrm.1, hrm.2, pay_in hts (z_goodIn h1), List.mem_cons_self⟩, hts _ h1, hts _ h4, h5, z_sig h6, va_Nw.use rfl (X.2.2.2.2.2.2.2.1.2 _ hl)⟩, hts _ h2, trivial⟩ ⟨z_blind, fun U hU hW => ⟨rfl, X.2.2.2.2.2.2.2.1.moved hW, by rw [hU]; exact hR⟩⟩ rfl (by rw [List.length_map]; exact hn) (hL.2.1) (by simp) (lv_room (z_wid _ _ hw)) hd hce) kk
end AWF
section AWE
variable {d : ZD} {Q : ZQ} {cells slots sz pc : Nat} {lv lv' : List (Option AwV)} {st stk : List AwV} {I J : AwI} {R : AwR}
theorem aw_ireturn {x : Int} (hd : decode d.2.1 pc = .ok (.ireturn, 1)) (hr : d.2.2.2.1 = some .int) (hc : cells ≤ d.2.2.2.2.cells ∧ slots ≤ d.2.2.2.2.slots) (hq : Q (some (zi x)) sz I J R) : AW (FM d Q) cells slots sz pc lv [zi x] I J R := by
  intro p l e s m args below meth c H locs ls G X hR hL hS
  refine W.widen hc.1 hc.2 ?_
  exact W.iret X.1 X.2.1 (X.2.2.2.1.trans hr) (fun t ht hW => ⟨⟨some (zi x), sz, I, J, R, rfl, hq, by rw [ht]; exact hR⟩, hS.F ht⟩) hS.2.2 hd X.2.2.2.2.1
theorem aw_zreturn {x : Int} (hd : decode d.2.1 pc = .ok (.ireturn, 1)) (hr : d.2.2.2.1 = some .boolean) (hx : x = 0 ∨ x = 1) (hc : cells ≤ d.2.2.2.2.cells ∧ slots ≤ d.2.2.2.2.slots) (hq : Q (some (zi x)) sz I J R) : AW (FM d Q) cells slots sz pc lv [zi x] I J R := by
  intro p l e s m args below meth c H locs ls G X hR hL hS
  refine W.widen hc.1 hc.2 ?_
  exact W.zret X.1 X.2.1 (X.2.2.2.1.trans hr) (by rcases hx with rfl | rfl <;> rfl) (fun t ht hW => ⟨⟨some (zi x), sz, I, J, R, rfl, hq, by rw [ht]; exact hR⟩, hS.F ht⟩) hS.2.2 hd X.2.2.2.2.1
theorem aw_lreturn {x : Int} (hd : decode d.2.1 pc = .ok (.lreturn, 1)) (hr : d.2.2.2.1 = some .long) (hc : cells ≤ d.2.2.2.2.cells ∧ slots ≤ d.2.2.2.2.slots) (hq : Q (some (zl x)) sz I J R) : AW (FM d Q) cells slots sz pc lv [zl x] I J R := by
  intro p l e s m args below meth c H locs ls G X hR hL hS
  refine W.widen hc.1 hc.2 ?_
  exact W.lret X.1 X.2.1 (X.2.2.2.1.trans hr) (fun t ht hW => ⟨⟨some (zl x), sz, I, J, R, rfl, hq, by rw [ht]; exact hR⟩, hS.F ht⟩) hS.2.2 hd X.2.2.2.2.1
theorem aw_areturn {a : Nat} {ty : String} (hd : decode d.2.1 pc = .ok (.areturn, 1)) (hr : d.2.2.2.1 = some (.object ty)) (hc : cells ≤ d.2.2.2.2.cells ∧ slots ≤ d.2.2.2.2.slots) (hq : Q (some (zr a)) sz I J R) : AW (FM d Q) cells slots sz pc lv [zr a] I J R := by
  intro p l e s m args below meth c H locs ls G X hR hL hS
  refine W.widen hc.1 hc.2 ?_
  exact W.aret X.1 X.2.1 (X.2.2.2.1.trans hr) (Or.inl ⟨_, rfl⟩) (Or.inr ⟨_, rfl⟩) (fun t ht hW => ⟨⟨some (zr a), sz, I, J, R, rfl, hq, by rw [ht]; exact hR⟩, hS.F ht⟩) hS.2.2 hd X.2.2.2.2.1
theorem aw_return (hd : decode d.2.1 pc = .ok (.return_, 1)) (hr : d.2.2.2.1 = none) (hc : cells ≤ d.2.2.2.2.cells ∧ slots ≤ d.2.2.2.2.slots) (hq : Q none sz I J R) : AW (FM d Q) cells slots sz pc lv [] I J R := by
  intro p l e s m args below meth c H locs ls G X hR hL hS
  refine W.widen hc.1 hc.2 ?_
  exact W.vret X.1 X.2.1 (X.2.2.2.1.trans hr) (fun t ht hW => ⟨⟨none, sz, I, J, R, rfl, hq, by rw [ht]; exact hR⟩, hS.F ht⟩) hS.2.2 hd X.2.2.2.2.1
end AWE
end
section
theorem z_in1 {w : Cond} (i : Nat) (h : tables_1_1[i]? = some w) (g : goodWord w = true) : w ∈ z_tb := List.mem_filter.mpr ⟨List.mem_append_right _ (List.mem_append_left _ (List.mem_of_getElem? h)), g⟩
theorem z_in2 {w : Cond} (i : Nat) (h : tables_1_2[i]? = some w) (g : goodWord w = true) : w ∈ z_tb := List.mem_filter.mpr ⟨List.mem_append_right _ (List.mem_append_right _ (List.mem_append_left _ (List.mem_of_getElem? h))), g⟩
theorem z_in3 {w : Cond} (i : Nat) (h : tables_1_3[i]? = some w) (g : goodWord w = true) : w ∈ z_tb := List.mem_filter.mpr ⟨List.mem_append_right _ (List.mem_append_right _ (List.mem_append_right _ (List.mem_append_left _ (List.mem_of_getElem? h)))), g⟩
theorem z_in4 {w : Cond} (i : Nat) (h : tables_1_4[i]? = some w) (g : goodWord w = true) : w ∈ z_tb := List.mem_filter.mpr ⟨List.mem_append_right _ (List.mem_append_right _ (List.mem_append_right _ (List.mem_append_right _ (List.mem_append_left _ (List.mem_of_getElem? h))))), g⟩
theorem z_in5 {w : Cond} (i : Nat) (h : tables_1_5[i]? = some w) (g : goodWord w = true) : w ∈ z_tb := List.mem_filter.mpr ⟨List.mem_append_right _ (List.mem_append_right _ (List.mem_append_right _ (List.mem_append_right _ (List.mem_append_right _ (List.mem_of_getElem? h))))), g⟩
theorem z_inp {q : MethodName × Nat} (i : Nat) (h : lw_privs[i]? = some q) (g : goodWord (Cond.selects q.1.cls q.1 q.1) = true) : Cond.selects q.1.cls q.1 q.1 ∈ z_tb := List.mem_filter.mpr ⟨List.mem_append_left _ (List.mem_map.mpr ⟨q, List.mem_of_getElem? h, rfl⟩), g⟩
theorem z_lX0 : ∀ w ∈ u_ws RX0 TX0 (z_cn 0), w ∈ z_tb := by
  intro w hw
  obtain ⟨k, hk, rfl⟩ := List.mem_map.mp hw
  have hk := List.mem_range.mp hk
  change k < 1 at hk
  match k, hk with
  | 0, _ => exact z_in2 9 (by decide +kernel) (by decide +kernel)
  | n + 1, h => exact absurd h (by omega)
theorem z_kX0 : z_Cl 0 RX0 TX0 tyX0 := ⟨rfl, z_lX0, tyX0_ok, nmX0⟩
theorem z_lX1 : ∀ w ∈ u_ws RX1 TX1 (z_cn 1), w ∈ z_tb := by
  intro w hw
  obtain ⟨k, hk, rfl⟩ := List.mem_map.mp hw
  have hk := List.mem_range.mp hk
  change k < 3 at hk
  match k, hk with
  | 0, _ => exact z_in2 21 (by decide +kernel) (by decide +kernel)
  | 1, _ => exact z_in2 23 (by decide +kernel) (by decide +kernel)
  | 2, _ => exact z_in2 25 (by decide +kernel) (by decide +kernel)
  | n + 3, h => exact absurd h (by omega)
theorem z_kX1 : z_Cl 1 RX1 TX1 tyX1 := ⟨rfl, z_lX1, tyX1_ok, nmX1⟩
theorem z_lX2 : ∀ w ∈ u_ws RX2 TX2 (z_cn 2), w ∈ z_tb := by
  intro w hw
  obtain ⟨k, hk, rfl⟩ := List.mem_map.mp hw
  have hk := List.mem_range.mp hk
  change k < 4 at hk
  match k, hk with
  | 0, _ => exact z_in1 233 (by decide +kernel) (by decide +kernel)
  | 1, _ => exact z_in1 235 (by decide +kernel) (by decide +kernel)
  | 2, _ => exact z_in1 237 (by decide +kernel) (by decide +kernel)
  | 3, _ => exact z_in1 239 (by decide +kernel) (by decide +kernel)
  | n + 4, h => exact absurd h (by omega)
theorem z_kX2 : z_Cl 2 RX2 TX2 tyX2 := ⟨rfl, z_lX2, tyX2_ok, nmX2⟩
theorem z_lX3 : ∀ w ∈ u_ws RX3 TX3 (z_cn 3), w ∈ z_tb := by
  intro w hw
  obtain ⟨k, hk, rfl⟩ := List.mem_map.mp hw
  have hk := List.mem_range.mp hk
  change k < 8 at hk
  match k, hk with
  | 0, _ => exact z_in1 206 (by decide +kernel) (by decide +kernel)
  | 1, _ => exact z_in1 208 (by decide +kernel) (by decide +kernel)
  | 2, _ => exact z_in1 210 (by decide +kernel) (by decide +kernel)
  | 3, _ => exact z_in1 212 (by decide +kernel) (by decide +kernel)
  | 4, _ => exact z_in1 214 (by decide +kernel) (by decide +kernel)
  | 5, _ => exact z_in1 216 (by decide +kernel) (by decide +kernel)
  | 6, _ => exact z_in1 218 (by decide +kernel) (by decide +kernel)
  | 7, _ => exact z_in1 220 (by decide +kernel) (by decide +kernel)
  | n + 8, h => exact absurd h (by omega)
theorem z_kX3 : z_Cl 3 RX3 TX3 tyX3 := ⟨rfl, z_lX3, tyX3_ok, nmX3⟩
theorem z_lX4 : ∀ w ∈ u_ws RX4 TX4 (z_cn 4), w ∈ z_tb := by
  intro w hw
  obtain ⟨k, hk, rfl⟩ := List.mem_map.mp hw
  have hk := List.mem_range.mp hk
  change k < 9 at hk
  match k, hk with
  | 0, _ => exact z_in1 138 (by decide +kernel) (by decide +kernel)
  | 1, _ => exact z_in1 140 (by decide +kernel) (by decide +kernel)
  | 2, _ => exact z_in1 142 (by decide +kernel) (by decide +kernel)
  | 3, _ => exact z_in1 144 (by decide +kernel) (by decide +kernel)
  | 4, _ => exact z_in1 146 (by decide +kernel) (by decide +kernel)
  | 5, _ => exact z_in1 148 (by decide +kernel) (by decide +kernel)
  | 6, _ => exact z_in1 150 (by decide +kernel) (by decide +kernel)
  | 7, _ => exact z_in1 152 (by decide +kernel) (by decide +kernel)
  | 8, _ => exact z_in1 154 (by decide +kernel) (by decide +kernel)
  | n + 9, h => exact absurd h (by omega)
theorem z_kX4 : z_Cl 4 RX4 TX4 tyX4 := ⟨rfl, z_lX4, tyX4_ok, nmX4⟩
theorem z_lX5 : ∀ w ∈ u_ws RX5 TX5 (z_cn 5), w ∈ z_tb := by
  intro w hw
  obtain ⟨k, hk, rfl⟩ := List.mem_map.mp hw
  have hk := List.mem_range.mp hk
  change k < 4 at hk
  match k, hk with
  | 0, _ => exact z_in1 164 (by decide +kernel) (by decide +kernel)
  | 1, _ => exact z_in1 166 (by decide +kernel) (by decide +kernel)
  | 2, _ => exact z_in1 168 (by decide +kernel) (by decide +kernel)
  | 3, _ => exact z_in1 170 (by decide +kernel) (by decide +kernel)
  | n + 4, h => exact absurd h (by omega)
theorem z_kX5 : z_Cl 5 RX5 TX5 tyX5 := ⟨rfl, z_lX5, tyX5_ok, nmX5⟩
theorem z_lX6 : ∀ w ∈ u_ws RX6 TX6 (z_cn 6), w ∈ z_tb := by
  intro w hw
  obtain ⟨k, hk, rfl⟩ := List.mem_map.mp hw
  have hk := List.mem_range.mp hk
  change k < 7 at hk
  match k, hk with
  | 0, _ => exact z_in1 71 (by decide +kernel) (by decide +kernel)
  | 1, _ => exact z_in1 73 (by decide +kernel) (by decide +kernel)
  | 2, _ => exact z_in1 75 (by decide +kernel) (by decide +kernel)
  | 3, _ => exact z_in1 77 (by decide +kernel) (by decide +kernel)
  | 4, _ => exact z_in1 79 (by decide +kernel) (by decide +kernel)
  | 5, _ => exact z_in1 81 (by decide +kernel) (by decide +kernel)
  | 6, _ => exact z_in1 83 (by decide +kernel) (by decide +kernel)
  | n + 7, h => exact absurd h (by omega)
theorem z_kX6 : z_Cl 6 RX6 TX6 tyX6 := ⟨rfl, z_lX6, tyX6_ok, nmX6⟩
theorem z_lX7 : ∀ w ∈ u_ws RX7 TX7 (z_cn 7), w ∈ z_tb := by
  intro w hw
  obtain ⟨k, hk, rfl⟩ := List.mem_map.mp hw
  have hk := List.mem_range.mp hk
  change k < 4 at hk
  match k, hk with
  | 0, _ => exact z_in1 183 (by decide +kernel) (by decide +kernel)
  | 1, _ => exact z_in1 185 (by decide +kernel) (by decide +kernel)
  | 2, _ => exact z_in1 187 (by decide +kernel) (by decide +kernel)
  | 3, _ => exact z_in1 189 (by decide +kernel) (by decide +kernel)
  | n + 4, h => exact absurd h (by omega)
theorem z_kX7 : z_Cl 7 RX7 TX7 tyX7 := ⟨rfl, z_lX7, tyX7_ok, nmX7⟩
theorem z_lX8 : ∀ w ∈ u_ws RX8 TX8 (z_cn 8), w ∈ z_tb := by
  intro w hw
  obtain ⟨k, hk, rfl⟩ := List.mem_map.mp hw
  have hk := List.mem_range.mp hk
  change k < 7 at hk
  match k, hk with
  | 0, _ => exact z_in2 35 (by decide +kernel) (by decide +kernel)
  | 1, _ => exact z_in2 37 (by decide +kernel) (by decide +kernel)
  | 2, _ => exact z_in2 39 (by decide +kernel) (by decide +kernel)
  | 3, _ => exact z_in2 41 (by decide +kernel) (by decide +kernel)
  | 4, _ => exact z_in2 43 (by decide +kernel) (by decide +kernel)
  | 5, _ => exact z_in2 45 (by decide +kernel) (by decide +kernel)
  | 6, _ => exact z_in2 47 (by decide +kernel) (by decide +kernel)
  | n + 7, h => exact absurd h (by omega)
theorem z_kX8 : z_Cl 8 RX8 TX8 tyX8 := ⟨rfl, z_lX8, tyX8_ok, nmX8⟩
theorem z_lX9 : ∀ w ∈ u_ws RX9 TX9 (z_cn 9), w ∈ z_tb := by
  intro w hw
  obtain ⟨k, hk, rfl⟩ := List.mem_map.mp hw
  have hk := List.mem_range.mp hk
  change k < 25 at hk
  match k, hk with
  | 0, _ => exact z_in4 55 (by decide +kernel) (by decide +kernel)
  | 1, _ => exact z_in4 57 (by decide +kernel) (by decide +kernel)
  | 2, _ => exact z_in4 59 (by decide +kernel) (by decide +kernel)
  | 3, _ => exact z_in4 61 (by decide +kernel) (by decide +kernel)
  | 4, _ => exact z_in4 63 (by decide +kernel) (by decide +kernel)
  | 5, _ => exact z_in4 65 (by decide +kernel) (by decide +kernel)
  | 6, _ => exact z_in4 67 (by decide +kernel) (by decide +kernel)
  | 7, _ => exact z_in4 69 (by decide +kernel) (by decide +kernel)
  | 8, _ => exact z_in4 71 (by decide +kernel) (by decide +kernel)
  | 9, _ => exact z_in4 73 (by decide +kernel) (by decide +kernel)
  | 10, _ => exact z_in4 75 (by decide +kernel) (by decide +kernel)
  | 11, _ => exact z_in4 77 (by decide +kernel) (by decide +kernel)
  | 12, _ => exact z_in4 79 (by decide +kernel) (by decide +kernel)
  | 13, _ => exact z_in4 81 (by decide +kernel) (by decide +kernel)
  | 14, _ => exact z_in4 83 (by decide +kernel) (by decide +kernel)
  | 15, _ => exact z_in4 85 (by decide +kernel) (by decide +kernel)
  | 16, _ => exact z_in4 87 (by decide +kernel) (by decide +kernel)
  | 17, _ => exact z_in4 89 (by decide +kernel) (by decide +kernel)
  | 18, _ => exact z_in4 91 (by decide +kernel) (by decide +kernel)
  | 19, _ => exact z_in4 93 (by decide +kernel) (by decide +kernel)
  | 20, _ => exact z_in4 95 (by decide +kernel) (by decide +kernel)
  | 21, _ => exact z_in4 97 (by decide +kernel) (by decide +kernel)
  | 22, _ => exact z_in4 99 (by decide +kernel) (by decide +kernel)
  | 23, _ => exact z_in4 101 (by decide +kernel) (by decide +kernel)
  | 24, _ => exact z_in4 103 (by decide +kernel) (by decide +kernel)
  | n + 25, h => exact absurd h (by omega)
theorem z_kX9 : z_Cl 9 RX9 TX9 tyX9 := ⟨rfl, z_lX9, tyX9_ok, nmX9⟩
theorem k_fl_X0_9 : z_Fl RX0 9 0 0 true (.object "CutProofs$Model") := ⟨RX0, TX0, tyX0, z_kX0, by decide, z_in2 8 (by decide +kernel) (by decide +kernel), rfl, rfl, rfl⟩
theorem k_fl_X0_15 : z_Fl RX0 15 4 5 false .int := ⟨RX4, TX4, tyX4, z_kX4, by decide, z_in1 126 (by decide +kernel) (by decide +kernel), rfl, rfl, rfl⟩
theorem k_fl_X0_31 : z_Fl RX0 31 4 7 false .int := ⟨RX4, TX4, tyX4, z_kX4, by decide, z_in1 133 (by decide +kernel) (by decide +kernel), rfl, rfl, rfl⟩
theorem k_fl_X0_37 : z_Fl RX0 37 6 6 false .int := ⟨RX6, TX6, tyX6, z_kX6, by decide, z_in1 69 (by decide +kernel) (by decide +kernel), rfl, rfl, rfl⟩
theorem k_fl_X0_42 : z_Fl RX0 42 4 1 true (.array .int) := ⟨RX4, TX4, tyX4, z_kX4, by decide, z_in1 110 (by decide +kernel) (by decide +kernel), rfl, rfl, rfl⟩
theorem k_fl_X0_46 : z_Fl RX0 46 6 4 true (.array .int) := ⟨RX6, TX6, tyX6, z_kX6, by decide, z_in1 54 (by decide +kernel) (by decide +kernel), rfl, rfl, rfl⟩
theorem k_fl_X0_49 : z_Fl RX0 49 6 5 false .int := ⟨RX6, TX6, tyX6, z_kX6, by decide, z_in1 62 (by decide +kernel) (by decide +kernel), rfl, rfl, rfl⟩
theorem k_fl_X0_52 : z_Fl RX0 52 4 0 true (.array .int) := ⟨RX4, TX4, tyX4, z_kX4, by decide, z_in1 102 (by decide +kernel) (by decide +kernel), rfl, rfl, rfl⟩
theorem k_fl_X0_59 : z_Fl RX0 59 4 3 true (.array .int) := ⟨RX4, TX4, tyX4, z_kX4, by decide, z_in1 116 (by decide +kernel) (by decide +kernel), rfl, rfl, rfl⟩
theorem k_fl_X0_62 : z_Fl RX0 62 6 1 true (.array .int) := ⟨RX6, TX6, tyX6, z_kX6, by decide, z_in1 41 (by decide +kernel) (by decide +kernel), rfl, rfl, rfl⟩
theorem k_fl_X0_65 : z_Fl RX0 65 4 2 true (.array .int) := ⟨RX4, TX4, tyX4, z_kX4, by decide, z_in1 113 (by decide +kernel) (by decide +kernel), rfl, rfl, rfl⟩
theorem k_fl_X0_68 : z_Fl RX0 68 6 0 true (.array .int) := ⟨RX6, TX6, tyX6, z_kX6, by decide, z_in1 37 (by decide +kernel) (by decide +kernel), rfl, rfl, rfl⟩
theorem k_fl_X0_71 : z_Fl RX0 71 4 4 false .int := ⟨RX4, TX4, tyX4, z_kX4, by decide, z_in1 119 (by decide +kernel) (by decide +kernel), rfl, rfl, rfl⟩
theorem k_fl_X0_80 : z_Fl RX0 80 6 3 true (.array (.array .int)) := ⟨RX6, TX6, tyX6, z_kX6, by decide, z_in1 51 (by decide +kernel) (by decide +kernel), rfl, rfl, rfl⟩
theorem k_fl_X0_83 : z_Fl RX0 83 4 8 false .int := ⟨RX4, TX4, tyX4, z_kX4, by decide, z_in1 137 (by decide +kernel) (by decide +kernel), rfl, rfl, rfl⟩
theorem k_fl_X1_9 : z_Fl RX1 9 1 1 true (.array .int) := ⟨RX1, TX1, tyX1, z_kX1, by decide, z_in2 19 (by decide +kernel) (by decide +kernel), rfl, rfl, rfl⟩
theorem k_fl_X1_15 : z_Fl RX1 15 1 2 true (.array .int) := ⟨RX1, TX1, tyX1, z_kX1, by decide, z_in2 20 (by decide +kernel) (by decide +kernel), rfl, rfl, rfl⟩
theorem k_fl_X1_18 : z_Fl RX1 18 1 0 true (.object "CutProofs$Model") := ⟨RX1, TX1, tyX1, z_kX1, by decide, z_in2 18 (by decide +kernel) (by decide +kernel), rfl, rfl, rfl⟩
theorem k_fl_X1_28 : z_Fl RX1 28 6 5 false .int := ⟨RX6, TX6, tyX6, z_kX6, by decide, z_in1 59 (by decide +kernel) (by decide +kernel), rfl, rfl, rfl⟩
theorem k_fl_X1_34 : z_Fl RX1 34 6 0 true (.array .int) := ⟨RX6, TX6, tyX6, z_kX6, by decide, z_in1 36 (by decide +kernel) (by decide +kernel), rfl, rfl, rfl⟩
theorem k_fl_X1_41 : z_Fl RX1 41 6 1 true (.array .int) := ⟨RX6, TX6, tyX6, z_kX6, by decide, z_in1 40 (by decide +kernel) (by decide +kernel), rfl, rfl, rfl⟩
theorem k_fl_X1_44 : z_Fl RX1 44 6 6 false .int := ⟨RX6, TX6, tyX6, z_kX6, by decide, z_in1 70 (by decide +kernel) (by decide +kernel), rfl, rfl, rfl⟩
theorem k_fl_X1_47 : z_Fl RX1 47 6 3 true (.array (.array .int)) := ⟨RX6, TX6, tyX6, z_kX6, by decide, z_in1 49 (by decide +kernel) (by decide +kernel), rfl, rfl, rfl⟩
theorem k_fl_X1_51 : z_Fl RX1 51 6 4 true (.array .int) := ⟨RX6, TX6, tyX6, z_kX6, by decide, z_in1 56 (by decide +kernel) (by decide +kernel), rfl, rfl, rfl⟩
theorem k_fl_X1_54 : z_Fl RX1 54 4 0 true (.array .int) := ⟨RX4, TX4, tyX4, z_kX4, by decide, z_in1 105 (by decide +kernel) (by decide +kernel), rfl, rfl, rfl⟩
theorem k_fl_X1_58 : z_Fl RX1 58 4 4 false .int := ⟨RX4, TX4, tyX4, z_kX4, by decide, z_in1 122 (by decide +kernel) (by decide +kernel), rfl, rfl, rfl⟩
theorem k_fl_X2_9 : z_Fl RX2 9 2 2 true (.array .int) := ⟨RX2, TX2, tyX2, z_kX2, by decide, z_in1 231 (by decide +kernel) (by decide +kernel), rfl, rfl, rfl⟩
theorem k_fl_X2_15 : z_Fl RX2 15 2 0 true (.object "CutProofs$Model") := ⟨RX2, TX2, tyX2, z_kX2, by decide, z_in1 229 (by decide +kernel) (by decide +kernel), rfl, rfl, rfl⟩
theorem k_fl_X2_19 : z_Fl RX2 19 2 1 true (.object "CutProofs$CutList") := ⟨RX2, TX2, tyX2, z_kX2, by decide, z_in1 230 (by decide +kernel) (by decide +kernel), rfl, rfl, rfl⟩
theorem k_fl_X2_29 : z_Fl RX2 29 6 5 false .int := ⟨RX6, TX6, tyX6, z_kX6, by decide, z_in1 58 (by decide +kernel) (by decide +kernel), rfl, rfl, rfl⟩
theorem k_fl_X2_42 : z_Fl RX2 42 2 3 false .int := ⟨RX2, TX2, tyX2, z_kX2, by decide, z_in1 232 (by decide +kernel) (by decide +kernel), rfl, rfl, rfl⟩
theorem k_fl_X2_73 : z_Fl RX2 73 4 0 true (.array .int) := ⟨RX4, TX4, tyX4, z_kX4, by decide, z_in1 106 (by decide +kernel) (by decide +kernel), rfl, rfl, rfl⟩
theorem k_fl_X2_78 : z_Fl RX2 78 4 4 false .int := ⟨RX4, TX4, tyX4, z_kX4, by decide, z_in1 123 (by decide +kernel) (by decide +kernel), rfl, rfl, rfl⟩
theorem k_fl_X3_9 : z_Fl RX3 9 3 2 true (.array .int) := ⟨RX3, TX3, tyX3, z_kX3, by decide, z_in1 200 (by decide +kernel) (by decide +kernel), rfl, rfl, rfl⟩
theorem k_fl_X3_15 : z_Fl RX3 15 3 3 true (.array .int) := ⟨RX3, TX3, tyX3, z_kX3, by decide, z_in1 201 (by decide +kernel) (by decide +kernel), rfl, rfl, rfl⟩
theorem k_fl_X3_18 : z_Fl RX3 18 3 4 true (.array .int) := ⟨RX3, TX3, tyX3, z_kX3, by decide, z_in1 202 (by decide +kernel) (by decide +kernel), rfl, rfl, rfl⟩
theorem k_fl_X3_21 : z_Fl RX3 21 3 5 true (.array .int) := ⟨RX3, TX3, tyX3, z_kX3, by decide, z_in1 203 (by decide +kernel) (by decide +kernel), rfl, rfl, rfl⟩
theorem k_fl_X3_24 : z_Fl RX3 24 3 0 true (.object "CutProofs$Model") := ⟨RX3, TX3, tyX3, z_kX3, by decide, z_in1 198 (by decide +kernel) (by decide +kernel), rfl, rfl, rfl⟩
theorem k_fl_X3_28 : z_Fl RX3 28 3 1 true (.object "CutProofs$CutList") := ⟨RX3, TX3, tyX3, z_kX3, by decide, z_in1 199 (by decide +kernel) (by decide +kernel), rfl, rfl, rfl⟩
theorem k_fl_X3_32 : z_Fl RX3 32 6 6 false .int := ⟨RX6, TX6, tyX6, z_kX6, by decide, z_in1 65 (by decide +kernel) (by decide +kernel), rfl, rfl, rfl⟩
theorem k_fl_X3_42 : z_Fl RX3 42 3 6 false .int := ⟨RX3, TX3, tyX3, z_kX3, by decide, z_in1 204 (by decide +kernel) (by decide +kernel), rfl, rfl, rfl⟩
theorem k_fl_X3_53 : z_Fl RX3 53 6 4 true (.array .int) := ⟨RX6, TX6, tyX6, z_kX6, by decide, z_in1 53 (by decide +kernel) (by decide +kernel), rfl, rfl, rfl⟩
theorem k_fl_X3_56 : z_Fl RX3 56 3 7 false .int := ⟨RX3, TX3, tyX3, z_kX3, by decide, z_in1 205 (by decide +kernel) (by decide +kernel), rfl, rfl, rfl⟩
theorem k_fl_X3_59 : z_Fl RX3 59 6 5 false .int := ⟨RX6, TX6, tyX6, z_kX6, by decide, z_in1 61 (by decide +kernel) (by decide +kernel), rfl, rfl, rfl⟩
theorem k_fl_X3_62 : z_Fl RX3 62 6 3 true (.array (.array .int)) := ⟨RX6, TX6, tyX6, z_kX6, by decide, z_in1 47 (by decide +kernel) (by decide +kernel), rfl, rfl, rfl⟩
theorem k_fl_X3_95 : z_Fl RX3 95 4 8 false .int := ⟨RX4, TX4, tyX4, z_kX4, by decide, z_in1 136 (by decide +kernel) (by decide +kernel), rfl, rfl, rfl⟩
theorem k_fl_X3_105 : z_Fl RX3 105 4 4 false .int := ⟨RX4, TX4, tyX4, z_kX4, by decide, z_in1 120 (by decide +kernel) (by decide +kernel), rfl, rfl, rfl⟩
theorem k_fl_X3_108 : z_Fl RX3 108 4 0 true (.array .int) := ⟨RX4, TX4, tyX4, z_kX4, by decide, z_in1 103 (by decide +kernel) (by decide +kernel), rfl, rfl, rfl⟩
theorem k_fl_X4_9 : z_Fl RX4 9 4 0 true (.array .int) := ⟨RX4, TX4, tyX4, z_kX4, by decide, z_in1 101 (by decide +kernel) (by decide +kernel), rfl, rfl, rfl⟩
theorem k_fl_X4_15 : z_Fl RX4 15 4 1 true (.array .int) := ⟨RX4, TX4, tyX4, z_kX4, by decide, z_in1 109 (by decide +kernel) (by decide +kernel), rfl, rfl, rfl⟩
theorem k_fl_X4_18 : z_Fl RX4 18 4 2 true (.array .int) := ⟨RX4, TX4, tyX4, z_kX4, by decide, z_in1 112 (by decide +kernel) (by decide +kernel), rfl, rfl, rfl⟩
theorem k_fl_X4_21 : z_Fl RX4 21 4 3 true (.array .int) := ⟨RX4, TX4, tyX4, z_kX4, by decide, z_in1 115 (by decide +kernel) (by decide +kernel), rfl, rfl, rfl⟩
theorem k_fl_X4_30 : z_Fl RX4 30 4 4 false .int := ⟨RX4, TX4, tyX4, z_kX4, by decide, z_in1 118 (by decide +kernel) (by decide +kernel), rfl, rfl, rfl⟩
theorem k_fl_X4_34 : z_Fl RX4 34 4 5 false .int := ⟨RX4, TX4, tyX4, z_kX4, by decide, z_in1 127 (by decide +kernel) (by decide +kernel), rfl, rfl, rfl⟩
theorem k_fl_X4_37 : z_Fl RX4 37 4 6 false .int := ⟨RX4, TX4, tyX4, z_kX4, by decide, z_in1 129 (by decide +kernel) (by decide +kernel), rfl, rfl, rfl⟩
theorem k_fl_X4_40 : z_Fl RX4 40 4 7 false .int := ⟨RX4, TX4, tyX4, z_kX4, by decide, z_in1 132 (by decide +kernel) (by decide +kernel), rfl, rfl, rfl⟩
theorem k_fl_X4_43 : z_Fl RX4 43 4 8 false .int := ⟨RX4, TX4, tyX4, z_kX4, by decide, z_in1 135 (by decide +kernel) (by decide +kernel), rfl, rfl, rfl⟩
theorem k_fl_X5_11 : z_Fl RX5 11 5 0 true (.array (.object "CutProofs$Cut")) := ⟨RX5, TX5, tyX5, z_kX5, by decide, z_in1 157 (by decide +kernel) (by decide +kernel), rfl, rfl, rfl⟩
theorem k_fl_X5_17 : z_Fl RX5 17 5 2 false .boolean := ⟨RX5, TX5, tyX5, z_kX5, by decide, z_in1 161 (by decide +kernel) (by decide +kernel), rfl, rfl, rfl⟩
theorem k_fl_X5_21 : z_Fl RX5 21 5 3 true (.object "CutProofs$Model") := ⟨RX5, TX5, tyX5, z_kX5, by decide, z_in1 163 (by decide +kernel) (by decide +kernel), rfl, rfl, rfl⟩
theorem k_fl_X5_26 : z_Fl RX5 26 5 1 false .int := ⟨RX5, TX5, tyX5, z_kX5, by decide, z_in1 159 (by decide +kernel) (by decide +kernel), rfl, rfl, rfl⟩
theorem k_fl_X5_44 : z_Fl RX5 44 6 5 false .int := ⟨RX6, TX6, tyX6, z_kX6, by decide, z_in1 64 (by decide +kernel) (by decide +kernel), rfl, rfl, rfl⟩
theorem k_fl_X5_51 : z_Fl RX5 51 4 6 false .int := ⟨RX4, TX4, tyX4, z_kX4, by decide, z_in1 130 (by decide +kernel) (by decide +kernel), rfl, rfl, rfl⟩
theorem k_fl_X6_9 : z_Fl RX6 9 6 0 true (.array .int) := ⟨RX6, TX6, tyX6, z_kX6, by decide, z_in1 35 (by decide +kernel) (by decide +kernel), rfl, rfl, rfl⟩
theorem k_fl_X6_15 : z_Fl RX6 15 6 1 true (.array .int) := ⟨RX6, TX6, tyX6, z_kX6, by decide, z_in1 39 (by decide +kernel) (by decide +kernel), rfl, rfl, rfl⟩
theorem k_fl_X6_18 : z_Fl RX6 18 6 2 true (.array .long) := ⟨RX6, TX6, tyX6, z_kX6, by decide, z_in1 43 (by decide +kernel) (by decide +kernel), rfl, rfl, rfl⟩
theorem k_fl_X6_24 : z_Fl RX6 24 6 3 true (.array (.array .int)) := ⟨RX6, TX6, tyX6, z_kX6, by decide, z_in1 46 (by decide +kernel) (by decide +kernel), rfl, rfl, rfl⟩
theorem k_fl_X6_27 : z_Fl RX6 27 6 4 true (.array .int) := ⟨RX6, TX6, tyX6, z_kX6, by decide, z_in1 52 (by decide +kernel) (by decide +kernel), rfl, rfl, rfl⟩
theorem k_fl_X6_30 : z_Fl RX6 30 6 5 false .int := ⟨RX6, TX6, tyX6, z_kX6, by decide, z_in1 57 (by decide +kernel) (by decide +kernel), rfl, rfl, rfl⟩
theorem k_fl_X6_34 : z_Fl RX6 34 6 6 false .int := ⟨RX6, TX6, tyX6, z_kX6, by decide, z_in1 67 (by decide +kernel) (by decide +kernel), rfl, rfl, rfl⟩
theorem k_fl_X6_51 : z_Fl RX6 51 4 0 true (.array .int) := ⟨RX4, TX4, tyX4, z_kX4, by decide, z_in1 108 (by decide +kernel) (by decide +kernel), rfl, rfl, rfl⟩
theorem k_fl_X6_55 : z_Fl RX6 55 4 4 false .int := ⟨RX4, TX4, tyX4, z_kX4, by decide, z_in1 125 (by decide +kernel) (by decide +kernel), rfl, rfl, rfl⟩
theorem k_fl_X7_9 : z_Fl RX7 9 7 2 true (.array .int) := ⟨RX7, TX7, tyX7, z_kX7, by decide, z_in1 181 (by decide +kernel) (by decide +kernel), rfl, rfl, rfl⟩
theorem k_fl_X7_15 : z_Fl RX7 15 7 0 true (.object "CutProofs$Model") := ⟨RX7, TX7, tyX7, z_kX7, by decide, z_in1 179 (by decide +kernel) (by decide +kernel), rfl, rfl, rfl⟩
theorem k_fl_X7_19 : z_Fl RX7 19 7 1 true (.object "CutProofs$CutList") := ⟨RX7, TX7, tyX7, z_kX7, by decide, z_in1 180 (by decide +kernel) (by decide +kernel), rfl, rfl, rfl⟩
theorem k_fl_X7_29 : z_Fl RX7 29 7 3 false .int := ⟨RX7, TX7, tyX7, z_kX7, by decide, z_in1 182 (by decide +kernel) (by decide +kernel), rfl, rfl, rfl⟩
theorem k_fl_X7_33 : z_Fl RX7 33 6 6 false .int := ⟨RX6, TX6, tyX6, z_kX6, by decide, z_in1 66 (by decide +kernel) (by decide +kernel), rfl, rfl, rfl⟩
theorem k_fl_X7_53 : z_Fl RX7 53 6 5 false .int := ⟨RX6, TX6, tyX6, z_kX6, by decide, z_in1 63 (by decide +kernel) (by decide +kernel), rfl, rfl, rfl⟩
theorem k_fl_X7_56 : z_Fl RX7 56 6 3 true (.array (.array .int)) := ⟨RX6, TX6, tyX6, z_kX6, by decide, z_in1 50 (by decide +kernel) (by decide +kernel), rfl, rfl, rfl⟩
theorem k_fl_X7_60 : z_Fl RX7 60 6 4 true (.array .int) := ⟨RX6, TX6, tyX6, z_kX6, by decide, z_in1 55 (by decide +kernel) (by decide +kernel), rfl, rfl, rfl⟩
theorem k_fl_X7_69 : z_Fl RX7 69 4 1 true (.array .int) := ⟨RX4, TX4, tyX4, z_kX4, by decide, z_in1 111 (by decide +kernel) (by decide +kernel), rfl, rfl, rfl⟩
theorem k_fl_X7_74 : z_Fl RX7 74 4 7 false .int := ⟨RX4, TX4, tyX4, z_kX4, by decide, z_in1 134 (by decide +kernel) (by decide +kernel), rfl, rfl, rfl⟩
theorem k_fl_X7_77 : z_Fl RX7 77 4 4 false .int := ⟨RX4, TX4, tyX4, z_kX4, by decide, z_in1 121 (by decide +kernel) (by decide +kernel), rfl, rfl, rfl⟩
theorem k_fl_X7_80 : z_Fl RX7 80 4 0 true (.array .int) := ⟨RX4, TX4, tyX4, z_kX4, by decide, z_in1 104 (by decide +kernel) (by decide +kernel), rfl, rfl, rfl⟩
theorem k_fl_X7_108 : z_Fl RX7 108 6 2 true (.array .long) := ⟨RX6, TX6, tyX6, z_kX6, by decide, z_in1 45 (by decide +kernel) (by decide +kernel), rfl, rfl, rfl⟩
theorem k_fl_X7_114 : z_Fl RX7 114 6 0 true (.array .int) := ⟨RX6, TX6, tyX6, z_kX6, by decide, z_in1 38 (by decide +kernel) (by decide +kernel), rfl, rfl, rfl⟩
theorem k_fl_X7_117 : z_Fl RX7 117 6 1 true (.array .int) := ⟨RX6, TX6, tyX6, z_kX6, by decide, z_in1 42 (by decide +kernel) (by decide +kernel), rfl, rfl, rfl⟩
theorem k_fl_X7_120 : z_Fl RX7 120 4 2 true (.array .int) := ⟨RX4, TX4, tyX4, z_kX4, by decide, z_in1 114 (by decide +kernel) (by decide +kernel), rfl, rfl, rfl⟩
theorem k_fl_X7_123 : z_Fl RX7 123 4 3 true (.array .int) := ⟨RX4, TX4, tyX4, z_kX4, by decide, z_in1 117 (by decide +kernel) (by decide +kernel), rfl, rfl, rfl⟩
theorem k_fl_X8_10 : z_Fl RX8 10 8 0 true (.object "CutProofs$Model") := ⟨RX8, TX8, tyX8, z_kX8, by decide, z_in2 28 (by decide +kernel) (by decide +kernel), rfl, rfl, rfl⟩
theorem k_fl_X8_21 : z_Fl RX8 21 8 1 true (.object "CutProofs$CutList") := ⟨RX8, TX8, tyX8, z_kX8, by decide, z_in2 29 (by decide +kernel) (by decide +kernel), rfl, rfl, rfl⟩
theorem k_fl_X8_30 : z_Fl RX8 30 8 2 true (.object "CutProofs$RoundingSearch") := ⟨RX8, TX8, tyX8, z_kX8, by decide, z_in2 30 (by decide +kernel) (by decide +kernel), rfl, rfl, rfl⟩
theorem k_fl_X8_37 : z_Fl RX8 37 8 3 true (.object "CutProofs$CoverSearch") := ⟨RX8, TX8, tyX8, z_kX8, by decide, z_in2 31 (by decide +kernel) (by decide +kernel), rfl, rfl, rfl⟩
theorem k_fl_X8_44 : z_Fl RX8 44 8 4 true (.object "CutProofs$CliqueSearch") := ⟨RX8, TX8, tyX8, z_kX8, by decide, z_in2 32 (by decide +kernel) (by decide +kernel), rfl, rfl, rfl⟩
theorem k_fl_X8_51 : z_Fl RX8 51 8 5 true (.object "CutProofs$Checker") := ⟨RX8, TX8, tyX8, z_kX8, by decide, z_in2 33 (by decide +kernel) (by decide +kernel), rfl, rfl, rfl⟩
theorem k_fl_X8_58 : z_Fl RX8 58 8 6 true (.object "CutProofs$ChoiceWalk") := ⟨RX8, TX8, tyX8, z_kX8, by decide, z_in2 34 (by decide +kernel) (by decide +kernel), rfl, rfl, rfl⟩
theorem k_fl_X8_66 : z_Fl RX8 66 6 5 false .int := ⟨RX6, TX6, tyX6, z_kX6, by decide, z_in1 60 (by decide +kernel) (by decide +kernel), rfl, rfl, rfl⟩
theorem k_fl_X8_70 : z_Fl RX8 70 5 1 false .int := ⟨RX5, TX5, tyX5, z_kX5, by decide, z_in1 160 (by decide +kernel) (by decide +kernel), rfl, rfl, rfl⟩
theorem k_fl_X8_77 : z_Fl RX8 77 6 6 false .int := ⟨RX6, TX6, tyX6, z_kX6, by decide, z_in1 68 (by decide +kernel) (by decide +kernel), rfl, rfl, rfl⟩
theorem k_fl_X8_91 : z_Fl RX8 91 6 3 true (.array (.array .int)) := ⟨RX6, TX6, tyX6, z_kX6, by decide, z_in1 48 (by decide +kernel) (by decide +kernel), rfl, rfl, rfl⟩
theorem k_fl_X8_95 : z_Fl RX8 95 6 2 true (.array .long) := ⟨RX6, TX6, tyX6, z_kX6, by decide, z_in1 44 (by decide +kernel) (by decide +kernel), rfl, rfl, rfl⟩
theorem k_fl_X8_99 : z_Fl RX8 99 5 2 false .boolean := ⟨RX5, TX5, tyX5, z_kX5, by decide, z_in1 162 (by decide +kernel) (by decide +kernel), rfl, rfl, rfl⟩
theorem k_fl_X8_125 : z_Fl RX8 125 5 0 true (.array (.object "CutProofs$Cut")) := ⟨RX5, TX5, tyX5, z_kX5, by decide, z_in1 158 (by decide +kernel) (by decide +kernel), rfl, rfl, rfl⟩
theorem k_fl_X8_131 : z_Fl RX8 131 4 0 true (.array .int) := ⟨RX4, TX4, tyX4, z_kX4, by decide, z_in1 107 (by decide +kernel) (by decide +kernel), rfl, rfl, rfl⟩
theorem k_fl_X8_136 : z_Fl RX8 136 4 4 false .int := ⟨RX4, TX4, tyX4, z_kX4, by decide, z_in1 124 (by decide +kernel) (by decide +kernel), rfl, rfl, rfl⟩
theorem k_fl_X8_139 : z_Fl RX8 139 4 5 false .int := ⟨RX4, TX4, tyX4, z_kX4, by decide, z_in1 128 (by decide +kernel) (by decide +kernel), rfl, rfl, rfl⟩
theorem k_fl_X8_142 : z_Fl RX8 142 4 6 false .int := ⟨RX4, TX4, tyX4, z_kX4, by decide, z_in1 131 (by decide +kernel) (by decide +kernel), rfl, rfl, rfl⟩
theorem k_fl_X9_7 : z_Fl RX9 7 9 1 true (.array .int) := ⟨RX9, TX9, tyX9, z_kX9, by decide, z_in4 31 (by decide +kernel) (by decide +kernel), rfl, rfl, rfl⟩
theorem k_fl_X9_13 : z_Fl RX9 13 9 2 true (.array .int) := ⟨RX9, TX9, tyX9, z_kX9, by decide, z_in4 32 (by decide +kernel) (by decide +kernel), rfl, rfl, rfl⟩
theorem k_fl_X9_16 : z_Fl RX9 16 9 3 true (.array .long) := ⟨RX9, TX9, tyX9, z_kX9, by decide, z_in4 33 (by decide +kernel) (by decide +kernel), rfl, rfl, rfl⟩
theorem k_fl_X9_20 : z_Fl RX9 20 9 5 true (.array .int) := ⟨RX9, TX9, tyX9, z_kX9, by decide, z_in4 35 (by decide +kernel) (by decide +kernel), rfl, rfl, rfl⟩
theorem k_fl_X9_23 : z_Fl RX9 23 9 6 true (.array .int) := ⟨RX9, TX9, tyX9, z_kX9, by decide, z_in4 36 (by decide +kernel) (by decide +kernel), rfl, rfl, rfl⟩
theorem k_fl_X9_26 : z_Fl RX9 26 9 8 true (.array .long) := ⟨RX9, TX9, tyX9, z_kX9, by decide, z_in4 38 (by decide +kernel) (by decide +kernel), rfl, rfl, rfl⟩
theorem k_fl_X9_29 : z_Fl RX9 29 9 9 true (.array .long) := ⟨RX9, TX9, tyX9, z_kX9, by decide, z_in4 39 (by decide +kernel) (by decide +kernel), rfl, rfl, rfl⟩
theorem k_fl_X9_32 : z_Fl RX9 32 9 10 true (.array .int) := ⟨RX9, TX9, tyX9, z_kX9, by decide, z_in4 40 (by decide +kernel) (by decide +kernel), rfl, rfl, rfl⟩
theorem k_fl_X9_35 : z_Fl RX9 35 9 11 true (.array .int) := ⟨RX9, TX9, tyX9, z_kX9, by decide, z_in4 41 (by decide +kernel) (by decide +kernel), rfl, rfl, rfl⟩
theorem k_fl_X9_38 : z_Fl RX9 38 9 12 true (.array .int) := ⟨RX9, TX9, tyX9, z_kX9, by decide, z_in4 42 (by decide +kernel) (by decide +kernel), rfl, rfl, rfl⟩
theorem k_fl_X9_41 : z_Fl RX9 41 9 13 false .int := ⟨RX9, TX9, tyX9, z_kX9, by decide, z_in4 43 (by decide +kernel) (by decide +kernel), rfl, rfl, rfl⟩
theorem k_fl_X9_45 : z_Fl RX9 45 9 16 true (.array .long) := ⟨RX9, TX9, tyX9, z_kX9, by decide, z_in4 46 (by decide +kernel) (by decide +kernel), rfl, rfl, rfl⟩
theorem k_fl_X9_48 : z_Fl RX9 48 9 18 true (.array .int) := ⟨RX9, TX9, tyX9, z_kX9, by decide, z_in4 48 (by decide +kernel) (by decide +kernel), rfl, rfl, rfl⟩
theorem k_fl_X9_51 : z_Fl RX9 51 9 19 true (.array .int) := ⟨RX9, TX9, tyX9, z_kX9, by decide, z_in4 49 (by decide +kernel) (by decide +kernel), rfl, rfl, rfl⟩
theorem k_fl_X9_54 : z_Fl RX9 54 9 20 true (.array .int) := ⟨RX9, TX9, tyX9, z_kX9, by decide, z_in4 50 (by decide +kernel) (by decide +kernel), rfl, rfl, rfl⟩
theorem k_fl_X9_57 : z_Fl RX9 57 9 21 true (.array .int) := ⟨RX9, TX9, tyX9, z_kX9, by decide, z_in4 51 (by decide +kernel) (by decide +kernel), rfl, rfl, rfl⟩
theorem k_fl_X9_60 : z_Fl RX9 60 9 24 true (.array .int) := ⟨RX9, TX9, tyX9, z_kX9, by decide, z_in4 54 (by decide +kernel) (by decide +kernel), rfl, rfl, rfl⟩
theorem k_fl_X9_63 : z_Fl RX9 63 9 15 false .int := ⟨RX9, TX9, tyX9, z_kX9, by decide, z_in4 45 (by decide +kernel) (by decide +kernel), rfl, rfl, rfl⟩
theorem k_fl_X9_66 : z_Fl RX9 66 9 0 false .int := ⟨RX9, TX9, tyX9, z_kX9, by decide, z_in4 30 (by decide +kernel) (by decide +kernel), rfl, rfl, rfl⟩
theorem k_fl_X9_69 : z_Fl RX9 69 9 7 false .int := ⟨RX9, TX9, tyX9, z_kX9, by decide, z_in4 37 (by decide +kernel) (by decide +kernel), rfl, rfl, rfl⟩
theorem k_fl_X9_72 : z_Fl RX9 72 9 4 false .int := ⟨RX9, TX9, tyX9, z_kX9, by decide, z_in4 34 (by decide +kernel) (by decide +kernel), rfl, rfl, rfl⟩
theorem k_fl_X9_84 : z_Fl RX9 84 9 17 false .long := ⟨RX9, TX9, tyX9, z_kX9, by decide, z_in4 47 (by decide +kernel) (by decide +kernel), rfl, rfl, rfl⟩
theorem k_fl_X9_92 : z_Fl RX9 92 9 14 false .int := ⟨RX9, TX9, tyX9, z_kX9, by decide, z_in4 44 (by decide +kernel) (by decide +kernel), rfl, rfl, rfl⟩
theorem k_fl_X9_124 : z_Fl RX9 124 9 22 false .int := ⟨RX9, TX9, tyX9, z_kX9, by decide, z_in4 52 (by decide +kernel) (by decide +kernel), rfl, rfl, rfl⟩
theorem k_fl_X9_127 : z_Fl RX9 127 9 23 false .int := ⟨RX9, TX9, tyX9, z_kX9, by decide, z_in4 53 (by decide +kernel) (by decide +kernel), rfl, rfl, rfl⟩
theorem k_ml_L_7 : Cond.methodLink RL 7 yX8_cut ∈ z_tb := z_in3 158 (by decide +kernel) (by decide +kernel)
theorem k_ml_L_17 : Cond.methodLink RL 17 yX8_strength ∈ z_tb := z_in4 9 (by decide +kernel) (by decide +kernel)
theorem k_ml_L_21 : Cond.methodLink RL 21 yX8_init ∈ z_tb := z_in1 21 (by decide +kernel) (by decide +kernel)
theorem k_ml_L_24 : Cond.methodLink RL 24 yX9_init ∈ z_tb := z_in4 26 (by decide +kernel) (by decide +kernel)
theorem k_ml_L_25 : Cond.methodLink RL 25 yX8_name ∈ z_tb := z_in2 50 (by decide +kernel) (by decide +kernel)
theorem k_ml_L_29 : Cond.methodLink RL 29 yX9_name ∈ z_tb := z_in4 110 (by decide +kernel) (by decide +kernel)
theorem k_ml_L_30 : Cond.methodLink RL 30 yX8_row ∈ z_tb := z_in2 61 (by decide +kernel) (by decide +kernel)
theorem k_ml_L_34 : Cond.methodLink RL 34 yX9_row ∈ z_tb := z_in4 114 (by decide +kernel) (by decide +kernel)
theorem k_ml_L_35 : Cond.methodLink RL 35 yX8_factor ∈ z_tb := z_in2 72 (by decide +kernel) (by decide +kernel)
theorem k_ml_L_38 : Cond.methodLink RL 38 yX9_factor ∈ z_tb := z_in4 118 (by decide +kernel) (by decide +kernel)
theorem k_ml_L_39 : Cond.methodLink RL 39 yX8_point ∈ z_tb := z_in2 84 (by decide +kernel) (by decide +kernel)
theorem k_ml_L_42 : Cond.methodLink RL 42 yX9_point ∈ z_tb := z_in4 130 (by decide +kernel) (by decide +kernel)
theorem k_ml_L_43 : Cond.methodLink RL 43 yX8_find ∈ z_tb := z_in2 88 (by decide +kernel) (by decide +kernel)
theorem k_ml_L_46 : Cond.methodLink RL 46 yX9_find ∈ z_tb := z_in4 135 (by decide +kernel) (by decide +kernel)
theorem k_ml_L_47 : Cond.methodLink RL 47 yX8_closed ∈ z_tb := z_in3 18 (by decide +kernel) (by decide +kernel)
theorem k_ml_L_51 : Cond.methodLink RL 51 yX9_closed ∈ z_tb := z_in4 226 (by decide +kernel) (by decide +kernel)
theorem k_ml_L_52 : Cond.methodLink RL 52 yL_cut ∈ z_tb := z_in3 153 (by decide +kernel) (by decide +kernel)
theorem k_ml_L_57 : Cond.methodLink RL 57 yX9_cut ∈ z_tb := z_in4 230 (by decide +kernel) (by decide +kernel)
theorem k_ml_L_58 : Cond.methodLink RL 58 yX9_thrown ∈ z_tb := z_in4 106 (by decide +kernel) (by decide +kernel)
theorem k_ml_L_61 : Cond.methodLink RL 61 yX8_proof ∈ z_tb := z_in3 22 (by decide +kernel) (by decide +kernel)
theorem k_ml_L_64 : Cond.methodLink RL 64 yX9_proof ∈ z_tb := z_in4 238 (by decide +kernel) (by decide +kernel)
theorem k_ml_L_65 : Cond.methodLink RL 65 yX8_plant ∈ z_tb := z_in3 38 (by decide +kernel) (by decide +kernel)
theorem k_ml_L_69 : Cond.methodLink RL 69 yX9_plant ∈ z_tb := z_in5 6 (by decide +kernel) (by decide +kernel)
theorem k_ml_L_70 : Cond.methodLink RL 70 yX8_check ∈ z_tb := z_in3 50 (by decide +kernel) (by decide +kernel)
theorem k_ml_L_73 : Cond.methodLink RL 73 yX9_check ∈ z_tb := z_in5 10 (by decide +kernel) (by decide +kernel)
theorem k_ml_L_74 : Cond.methodLink RL 74 yL_strength ∈ z_tb := z_in4 6 (by decide +kernel) (by decide +kernel)
theorem k_ml_L_77 : Cond.methodLink RL 77 yX9_strength ∈ z_tb := z_in5 30 (by decide +kernel) (by decide +kernel)
theorem k_ml_L_78 : Cond.methodLink RL 78 yX8_best ∈ z_tb := z_in3 90 (by decide +kernel) (by decide +kernel)
theorem k_ml_L_81 : Cond.methodLink RL 81 yX9_best ∈ z_tb := z_in5 38 (by decide +kernel) (by decide +kernel)
theorem k_ml_L_82 : Cond.methodLink RL 82 yX8_holds ∈ z_tb := z_in3 95 (by decide +kernel) (by decide +kernel)
theorem k_ml_L_85 : Cond.methodLink RL 85 yX9_holds ∈ z_tb := z_in5 42 (by decide +kernel) (by decide +kernel)
theorem k_ml_L_86 : Cond.methodLink RL 86 yX8_plans ∈ z_tb := z_in3 125 (by decide +kernel) (by decide +kernel)
theorem k_ml_L_89 : Cond.methodLink RL 89 yX9_plans ∈ z_tb := z_in5 63 (by decide +kernel) (by decide +kernel)
theorem k_ml_L_90 : Cond.methodLink RL 90 yX8_turn ∈ z_tb := z_in3 129 (by decide +kernel) (by decide +kernel)
theorem k_ml_L_93 : Cond.methodLink RL 93 yX9_turn ∈ z_tb := z_in5 67 (by decide +kernel) (by decide +kernel)
theorem k_ml_L_94 : Cond.methodLink RL 94 yX8_told ∈ z_tb := z_in3 137 (by decide +kernel) (by decide +kernel)
theorem k_ml_L_97 : Cond.methodLink RL 97 yX9_told ∈ z_tb := z_in5 71 (by decide +kernel) (by decide +kernel)
theorem k_ml_L_98 : Cond.methodLink RL 98 yX8_clear ∈ z_tb := z_in3 149 (by decide +kernel) (by decide +kernel)
theorem k_ml_L_101 : Cond.methodLink RL 101 yX9_clear ∈ z_tb := z_in5 75 (by decide +kernel) (by decide +kernel)
theorem k_ml_X0_21 : Cond.methodLink RX0 21 yX0_acceptsRounding ∈ z_tb := z_in3 58 (by decide +kernel) (by decide +kernel)
theorem k_ml_X0_25 : Cond.methodLink RX0 25 yX0_acceptsCover ∈ z_tb := z_in3 73 (by decide +kernel) (by decide +kernel)
theorem k_ml_X0_28 : Cond.methodLink RX0 28 yX0_acceptsClique ∈ z_tb := z_in3 85 (by decide +kernel) (by decide +kernel)
theorem k_ml_X0_34 : Cond.methodLink RX0 34 yX0_isTakenBelowZero ∈ z_tb := z_in3 62 (by decide +kernel) (by decide +kernel)
theorem k_ml_X0_55 : Cond.methodLink RX0 55 yX0_comingFactor ∈ z_tb := z_in3 66 (by decide +kernel) (by decide +kernel)
theorem k_ml_X0_74 : Cond.methodLink RX0 74 yJ9_floorDiv_f86c9 ∈ z_tb := z_in3 70 (by decide +kernel) (by decide +kernel)
theorem k_ml_X0_86 : Cond.methodLink RX0 86 yX6_hasRow ∈ z_tb := z_in3 77 (by decide +kernel) (by decide +kernel)
theorem k_ml_X0_90 : Cond.methodLink RX0 90 yX6_least ∈ z_tb := z_in3 78 (by decide +kernel) (by decide +kernel)
theorem k_ml_X0_94 : Cond.methodLink RX0 94 yX6_isBinary ∈ z_tb := z_in3 79 (by decide +kernel) (by decide +kernel)
theorem k_ml_X0_97 : Cond.methodLink RX0 97 yX0_sumOver ∈ z_tb := z_in3 80 (by decide +kernel) (by decide +kernel)
theorem k_ml_X0_105 : Cond.methodLink RX0 105 yX6_clashAnywhere ∈ z_tb := z_in3 89 (by decide +kernel) (by decide +kernel)
theorem k_ml_X1_22 : Cond.methodLink RX1 22 yJ7_fill_53178 ∈ z_tb := z_in3 108 (by decide +kernel) (by decide +kernel)
theorem k_ml_X1_37 : Cond.methodLink RX1 37 yX1_choose ∈ z_tb := z_in3 109 (by decide +kernel) (by decide +kernel)
theorem k_ml_X2_23 : Cond.methodLink RX2 23 yX2_readBinaries ∈ z_tb := z_in2 227 (by decide +kernel) (by decide +kernel)
theorem k_ml_X2_26 : Cond.methodLink RX2 26 yX2_readClashes ∈ z_tb := z_in2 232 (by decide +kernel) (by decide +kernel)
theorem k_ml_X2_35 : Cond.methodLink RX2 35 yX2_isWidestClique ∈ z_tb := z_in3 7 (by decide +kernel) (by decide +kernel)
theorem k_ml_X2_39 : Cond.methodLink RX2 39 yX2_tryClique ∈ z_tb := z_in3 12 (by decide +kernel) (by decide +kernel)
theorem k_ml_X2_45 : Cond.methodLink RX2 45 yX6_isBinary ∈ z_tb := z_in2 231 (by decide +kernel) (by decide +kernel)
theorem k_ml_X2_48 : Cond.methodLink RX2 48 yJ7_fill_53178 ∈ z_tb := z_in2 236 (by decide +kernel) (by decide +kernel)
theorem k_ml_X2_58 : Cond.methodLink RX2 58 yX6_clashAnywhere ∈ z_tb := z_in2 238 (by decide +kernel) (by decide +kernel)
theorem k_ml_X2_61 : Cond.methodLink RX2 61 yJ6_bitCount_0f7a4 ∈ z_tb := z_in3 11 (by decide +kernel) (by decide +kernel)
theorem k_ml_X2_67 : Cond.methodLink RX2 67 yX5_newDraft ∈ z_tb := z_in3 16 (by decide +kernel) (by decide +kernel)
theorem k_ml_X2_81 : Cond.methodLink RX2 81 yX5_settleDraft ∈ z_tb := z_in3 17 (by decide +kernel) (by decide +kernel)
theorem k_ml_X3_38 : Cond.methodLink RX3 38 yX3_readLiterals ∈ z_tb := z_in2 174 (by decide +kernel) (by decide +kernel)
theorem k_ml_X3_45 : Cond.methodLink RX3 45 yX3_isMinimalCover ∈ z_tb := z_in2 189 (by decide +kernel) (by decide +kernel)
theorem k_ml_X3_49 : Cond.methodLink RX3 49 yX3_tryCover ∈ z_tb := z_in2 198 (by decide +kernel) (by decide +kernel)
theorem k_ml_X3_66 : Cond.methodLink RX3 66 yX6_isBinary ∈ z_tb := z_in2 178 (by decide +kernel) (by decide +kernel)
theorem k_ml_X3_69 : Cond.methodLink RX3 69 yX6_least ∈ z_tb := z_in2 182 (by decide +kernel) (by decide +kernel)
theorem k_ml_X3_73 : Cond.methodLink RX3 73 yJ9_abs_0f7a4 ∈ z_tb := z_in2 186 (by decide +kernel) (by decide +kernel)
theorem k_ml_X3_83 : Cond.methodLink RX3 83 yJ9_min_7cf53 ∈ z_tb := z_in2 195 (by decide +kernel) (by decide +kernel)
theorem k_ml_X3_86 : Cond.methodLink RX3 86 yX3_lift ∈ z_tb := z_in2 202 (by decide +kernel) (by decide +kernel)
theorem k_ml_X3_89 : Cond.methodLink RX3 89 yX5_newDraft ∈ z_tb := z_in2 221 (by decide +kernel) (by decide +kernel)
theorem k_ml_X3_100 : Cond.methodLink RX3 100 yJ6_bitCount_0f7a4 ∈ z_tb := z_in2 206 (by decide +kernel) (by decide +kernel)
theorem k_ml_X3_110 : Cond.methodLink RX3 110 yX5_settleDraft ∈ z_tb := z_in2 222 (by decide +kernel) (by decide +kernel)
theorem k_ml_X3_114 : Cond.methodLink RX3 114 yJ7_fill_53178 ∈ z_tb := z_in2 212 (by decide +kernel) (by decide +kernel)
theorem k_ml_X3_120 : Cond.methodLink RX3 120 yX3_giveAlpha ∈ z_tb := z_in2 213 (by decide +kernel) (by decide +kernel)
theorem k_ml_X3_124 : Cond.methodLink RX3 124 yX3_greatestSum ∈ z_tb := z_in2 217 (by decide +kernel) (by decide +kernel)
theorem k_ml_X4_24 : Cond.methodLink RX4 24 yJ7_fill_53178 ∈ z_tb := z_in2 116 (by decide +kernel) (by decide +kernel)
theorem k_ml_X5_30 : Cond.methodLink RX5 30 yX4_begin ∈ z_tb := z_in2 112 (by decide +kernel) (by decide +kernel)
theorem k_ml_X5_34 : Cond.methodLink RX5 34 yX6_scaledStrength ∈ z_tb := z_in2 145 (by decide +kernel) (by decide +kernel)
theorem k_ml_X5_40 : Cond.methodLink RX5 40 yX5_isToldAlready ∈ z_tb := z_in2 150 (by decide +kernel) (by decide +kernel)
theorem k_ml_X5_47 : Cond.methodLink RX5 47 yX4_saysTheSameAs ∈ z_tb := z_in2 154 (by decide +kernel) (by decide +kernel)
theorem k_ml_X6_37 : Cond.methodLink RX6 37 yJ7_fill_53178 ∈ z_tb := z_in2 69 (by decide +kernel) (by decide +kernel)
theorem k_ml_X6_43 : Cond.methodLink RX6 43 yX6_clashIn ∈ z_tb := z_in3 2 (by decide +kernel) (by decide +kernel)
theorem k_ml_X6_47 : Cond.methodLink RX6 47 yX6_least ∈ z_tb := z_in3 6 (by decide +kernel) (by decide +kernel)
theorem k_ml_X7_23 : Cond.methodLink RX7 23 yJ7_fill_53178 ∈ z_tb := z_in2 96 (by decide +kernel) (by decide +kernel)
theorem k_ml_X7_38 : Cond.methodLink RX7 38 yX7_moveSumTo ∈ z_tb := z_in2 97 (by decide +kernel) (by decide +kernel)
theorem k_ml_X7_42 : Cond.methodLink RX7 42 yX7_tryHalves ∈ z_tb := z_in2 104 (by decide +kernel) (by decide +kernel)
theorem k_ml_X7_46 : Cond.methodLink RX7 46 yX7_tryRounded ∈ z_tb := z_in2 162 (by decide +kernel) (by decide +kernel)
theorem k_ml_X7_63 : Cond.methodLink RX7 63 yX5_newDraft ∈ z_tb := z_in2 108 (by decide +kernel) (by decide +kernel)
theorem k_ml_X7_82 : Cond.methodLink RX7 82 yJ9_floorMod_7cf53 ∈ z_tb := z_in2 117 (by decide +kernel) (by decide +kernel)
theorem k_ml_X7_88 : Cond.methodLink RX7 88 yX7_isHighNearer ∈ z_tb := z_in2 120 (by decide +kernel) (by decide +kernel)
theorem k_ml_X7_91 : Cond.methodLink RX7 91 yX7_takeHigh ∈ z_tb := z_in2 126 (by decide +kernel) (by decide +kernel)
theorem k_ml_X7_95 : Cond.methodLink RX7 95 yX7_takeLow ∈ z_tb := z_in2 130 (by decide +kernel) (by decide +kernel)
theorem k_ml_X7_98 : Cond.methodLink RX7 98 yX7_divideAndSettle ∈ z_tb := z_in2 134 (by decide +kernel) (by decide +kernel)
theorem k_ml_X7_102 : Cond.methodLink RX7 102 yX7_isLowCheaper ∈ z_tb := z_in2 166 (by decide +kernel) (by decide +kernel)
theorem k_ml_X7_126 : Cond.methodLink RX7 126 yJ9_floorDiv_7cf53 ∈ z_tb := z_in2 138 (by decide +kernel) (by decide +kernel)
theorem k_ml_X7_129 : Cond.methodLink RX7 129 yX5_settleDraft ∈ z_tb := z_in2 141 (by decide +kernel) (by decide +kernel)
theorem k_ml_X8_18 : Cond.methodLink RX8 18 yX5_init ∈ z_tb := z_in1 90 (by decide +kernel) (by decide +kernel)
theorem k_ml_X8_27 : Cond.methodLink RX8 27 yX7_init ∈ z_tb := z_in1 175 (by decide +kernel) (by decide +kernel)
theorem k_ml_X8_36 : Cond.methodLink RX8 36 yX3_init ∈ z_tb := z_in1 194 (by decide +kernel) (by decide +kernel)
theorem k_ml_X8_43 : Cond.methodLink RX8 43 yX2_init ∈ z_tb := z_in1 225 (by decide +kernel) (by decide +kernel)
theorem k_ml_X8_50 : Cond.methodLink RX8 50 yX0_init ∈ z_tb := z_in2 4 (by decide +kernel) (by decide +kernel)
theorem k_ml_X8_57 : Cond.methodLink RX8 57 yX1_init ∈ z_tb := z_in2 14 (by decide +kernel) (by decide +kernel)
theorem k_ml_X8_62 : Cond.methodLink RX8 62 yX8_isBeyond ∈ z_tb := z_in2 54 (by decide +kernel) (by decide +kernel)
theorem k_ml_X8_73 : Cond.methodLink RX8 73 yX6_addName ∈ z_tb := z_in2 57 (by decide +kernel) (by decide +kernel)
theorem k_ml_X8_80 : Cond.methodLink RX8 80 yX6_addRow ∈ z_tb := z_in2 65 (by decide +kernel) (by decide +kernel)
theorem k_ml_X8_84 : Cond.methodLink RX8 84 yX6_hasRow ∈ z_tb := z_in2 76 (by decide +kernel) (by decide +kernel)
theorem k_ml_X8_88 : Cond.methodLink RX8 88 yX6_hasName ∈ z_tb := z_in2 80 (by decide +kernel) (by decide +kernel)
theorem k_ml_X8_103 : Cond.methodLink RX8 103 yX7_seekHalves ∈ z_tb := z_in2 92 (by decide +kernel) (by decide +kernel)
theorem k_ml_X8_106 : Cond.methodLink RX8 106 yX7_seekRounded ∈ z_tb := z_in2 158 (by decide +kernel) (by decide +kernel)
theorem k_ml_X8_109 : Cond.methodLink RX8 109 yX3_seekCovers ∈ z_tb := z_in2 170 (by decide +kernel) (by decide +kernel)
theorem k_ml_X8_112 : Cond.methodLink RX8 112 yX2_seekCliques ∈ z_tb := z_in2 223 (by decide +kernel) (by decide +kernel)
theorem k_ml_X8_115 : Cond.methodLink RX8 115 yX5_has ∈ z_tb := z_in3 26 (by decide +kernel) (by decide +kernel)
theorem k_ml_X8_150 : Cond.methodLink RX8 150 yX8_refusalOfShown ∈ z_tb := z_in3 30 (by decide +kernel) (by decide +kernel)
theorem k_ml_X8_154 : Cond.methodLink RX8 154 yX4_shown ∈ z_tb := z_in3 34 (by decide +kernel) (by decide +kernel)
theorem k_ml_X8_157 : Cond.methodLink RX8 157 yX8_refusalOfPlanted ∈ z_tb := z_in3 42 (by decide +kernel) (by decide +kernel)
theorem k_ml_X8_160 : Cond.methodLink RX8 160 yX4_showOtherwise ∈ z_tb := z_in3 46 (by decide +kernel) (by decide +kernel)
theorem k_ml_X8_164 : Cond.methodLink RX8 164 yX0_accepts ∈ z_tb := z_in3 54 (by decide +kernel) (by decide +kernel)
theorem k_ml_X8_170 : Cond.methodLink RX8 170 yX6_scaledStrength ∈ z_tb := z_in3 94 (by decide +kernel) (by decide +kernel)
theorem k_ml_X8_174 : Cond.methodLink RX8 174 yX8_commonWithScale ∈ z_tb := z_in4 14 (by decide +kernel) (by decide +kernel)
theorem k_ml_X8_180 : Cond.methodLink RX8 180 yX6_choices ∈ z_tb := z_in3 99 (by decide +kernel) (by decide +kernel)
theorem k_ml_X8_186 : Cond.methodLink RX8 186 yX1_begin ∈ z_tb := z_in3 104 (by decide +kernel) (by decide +kernel)
theorem k_ml_X8_189 : Cond.methodLink RX8 189 yX1_isPlan ∈ z_tb := z_in3 113 (by decide +kernel) (by decide +kernel)
theorem k_ml_X8_193 : Cond.methodLink RX8 193 yX1_keeps ∈ z_tb := z_in3 117 (by decide +kernel) (by decide +kernel)
theorem k_ml_X8_196 : Cond.methodLink RX8 196 yX1_advance ∈ z_tb := z_in3 121 (by decide +kernel) (by decide +kernel)
theorem k_ml_X8_199 : Cond.methodLink RX8 199 yX5_ageAll ∈ z_tb := z_in3 133 (by decide +kernel) (by decide +kernel)
theorem k_ml_X8_203 : Cond.methodLink RX8 203 yX8_countBroken ∈ z_tb := z_in3 141 (by decide +kernel) (by decide +kernel)
theorem k_ml_X8_206 : Cond.methodLink RX8 206 yX8_countAccepted ∈ z_tb := z_in3 145 (by decide +kernel) (by decide +kernel)
theorem k_ml_X8_209 : Cond.methodLink RX8 209 yJ9_abs_067f4 ∈ z_tb := z_in4 18 (by decide +kernel) (by decide +kernel)
theorem k_ml_X8_214 : Cond.methodLink RX8 214 yJ9_max_f86c9 ∈ z_tb := z_in4 21 (by decide +kernel) (by decide +kernel)
theorem k_ml_X9_75 : Cond.methodLink RX9 75 yX9_isRow ∈ z_tb := z_in4 122 (by decide +kernel) (by decide +kernel)
theorem k_ml_X9_79 : Cond.methodLink RX9 79 yX9_isName ∈ z_tb := z_in4 126 (by decide +kernel) (by decide +kernel)
theorem k_ml_X9_88 : Cond.methodLink RX9 88 yX9_isThere ∈ z_tb := z_in4 168 (by decide +kernel) (by decide +kernel)
theorem k_ml_X9_95 : Cond.methodLink RX9 95 yJ9_floorDiv_f86c9 ∈ z_tb := z_in4 163 (by decide +kernel) (by decide +kernel)
theorem k_ml_X9_101 : Cond.methodLink RX9 101 yX9_emptied ∈ z_tb := z_in4 143 (by decide +kernel) (by decide +kernel)
theorem k_ml_X9_104 : Cond.methodLink RX9 104 yX9_takeRow ∈ z_tb := z_in4 147 (by decide +kernel) (by decide +kernel)
theorem k_ml_X9_108 : Cond.methodLink RX9 108 yX9_takeHigh ∈ z_tb := z_in4 151 (by decide +kernel) (by decide +kernel)
theorem k_ml_X9_112 : Cond.methodLink RX9 112 yX9_takeLow ∈ z_tb := z_in4 155 (by decide +kernel) (by decide +kernel)
theorem k_ml_X9_115 : Cond.methodLink RX9 115 yX9_divide ∈ z_tb := z_in4 159 (by decide +kernel) (by decide +kernel)
theorem k_ml_X9_118 : Cond.methodLink RX9 118 yX9_offer ∈ z_tb := z_in4 164 (by decide +kernel) (by decide +kernel)
theorem k_ml_X9_121 : Cond.methodLink RX9 121 yJ9_floorMod_f86c9 ∈ z_tb := z_in4 176 (by decide +kernel) (by decide +kernel)
theorem k_ml_X9_130 : Cond.methodLink RX9 130 yX9_isBinary ∈ z_tb := z_in4 187 (by decide +kernel) (by decide +kernel)
theorem k_ml_X9_133 : Cond.methodLink RX9 133 yX9_least ∈ z_tb := z_in4 191 (by decide +kernel) (by decide +kernel)
theorem k_ml_X9_137 : Cond.methodLink RX9 137 yX9_weightOf ∈ z_tb := z_in4 199 (by decide +kernel) (by decide +kernel)
theorem k_ml_X9_141 : Cond.methodLink RX9 141 yJ9_max_7cf53 ∈ z_tb := z_in4 211 (by decide +kernel) (by decide +kernel)
theorem k_ml_X9_144 : Cond.methodLink RX9 144 yX9_greatest ∈ z_tb := z_in4 207 (by decide +kernel) (by decide +kernel)
theorem k_ml_X9_147 : Cond.methodLink RX9 147 yX9_findLiterals ∈ z_tb := z_in4 183 (by decide +kernel) (by decide +kernel)
theorem k_ml_X9_150 : Cond.methodLink RX9 150 yX9_isCover ∈ z_tb := z_in4 195 (by decide +kernel) (by decide +kernel)
theorem k_ml_X9_153 : Cond.methodLink RX9 153 yX9_cover ∈ z_tb := z_in4 203 (by decide +kernel) (by decide +kernel)
theorem k_ml_X9_156 : Cond.methodLink RX9 156 yX9_clash ∈ z_tb := z_in4 222 (by decide +kernel) (by decide +kernel)
theorem k_ml_X9_160 : Cond.methodLink RX9 160 yX9_isClique ∈ z_tb := z_in4 218 (by decide +kernel) (by decide +kernel)
theorem k_ml_X9_163 : Cond.methodLink RX9 163 yX9_halves ∈ z_tb := z_in4 139 (by decide +kernel) (by decide +kernel)
theorem k_ml_X9_166 : Cond.methodLink RX9 166 yX9_rounded ∈ z_tb := z_in4 172 (by decide +kernel) (by decide +kernel)
theorem k_ml_X9_169 : Cond.methodLink RX9 169 yX9_covers ∈ z_tb := z_in4 179 (by decide +kernel) (by decide +kernel)
theorem k_ml_X9_172 : Cond.methodLink RX9 172 yX9_cliques ∈ z_tb := z_in4 214 (by decide +kernel) (by decide +kernel)
theorem k_ml_X9_175 : Cond.methodLink RX9 175 yX9_isCut ∈ z_tb := z_in4 234 (by decide +kernel) (by decide +kernel)
theorem k_ml_X9_178 : Cond.methodLink RX9 178 yX9_placeOf ∈ z_tb := z_in5 2 (by decide +kernel) (by decide +kernel)
theorem k_ml_X9_182 : Cond.methodLink RX9 182 yX9_acceptsSum ∈ z_tb := z_in5 18 (by decide +kernel) (by decide +kernel)
theorem k_ml_X9_185 : Cond.methodLink RX9 185 yX9_acceptsCover ∈ z_tb := z_in5 22 (by decide +kernel) (by decide +kernel)
theorem k_ml_X9_188 : Cond.methodLink RX9 188 yX9_acceptsClique ∈ z_tb := z_in5 26 (by decide +kernel) (by decide +kernel)
theorem k_ml_X9_191 : Cond.methodLink RX9 191 yX9_accepts ∈ z_tb := z_in5 14 (by decide +kernel) (by decide +kernel)
theorem k_ml_X9_194 : Cond.methodLink RX9 194 yX9_over ∈ z_tb := z_in5 34 (by decide +kernel) (by decide +kernel)
theorem k_ml_X9_200 : Cond.methodLink RX9 200 yX9_isPlan ∈ z_tb := z_in5 55 (by decide +kernel) (by decide +kernel)
theorem k_ml_X9_203 : Cond.methodLink RX9 203 yX9_goesOn ∈ z_tb := z_in5 59 (by decide +kernel) (by decide +kernel)
theorem k_ml_X9_206 : Cond.methodLink RX9 206 yX9_tooMany ∈ z_tb := z_in5 46 (by decide +kernel) (by decide +kernel)
theorem k_ml_X9_209 : Cond.methodLink RX9 209 yX9_count ∈ z_tb := z_in5 51 (by decide +kernel) (by decide +kernel)
def m_J6_bitCount_0f7a4 : ZD := (yJ6_bitCount_0f7a4, cJ6_bitCount_0f7a4, 1, (some .int), { frames := 0, cells := 0, slots := 0, locals := 0 })
theorem k_J6_bitCount_0f7a4 : z_Cs m_J6_bitCount_0f7a4 1 := ⟨z_in2 208 (by decide +kernel) (by decide +kernel), z_in2 207 (by decide +kernel) (by decide +kernel), z_in1 13 (by decide +kernel) (by decide +kernel), by decide +kernel, by decide +kernel⟩
def m_J7_fill_53178 : ZD := (yJ7_fill_53178, cJ7_fill_53178, 4, none, { frames := 0, cells := 0, slots := 0, locals := 0 })
theorem k_J7_fill_53178 : z_Cs m_J7_fill_53178 2 := ⟨z_in2 71 (by decide +kernel) (by decide +kernel), z_in2 70 (by decide +kernel) (by decide +kernel), z_in1 11 (by decide +kernel) (by decide +kernel), by decide +kernel, by decide +kernel⟩
def m_J9_abs_067f4 : ZD := (yJ9_abs_067f4, cJ9_abs_067f4, 2, (some .long), { frames := 0, cells := 0, slots := 0, locals := 0 })
theorem k_J9_abs_067f4 : z_Cs m_J9_abs_067f4 1 := ⟨z_in4 20 (by decide +kernel) (by decide +kernel), z_in4 19 (by decide +kernel) (by decide +kernel), z_in1 12 (by decide +kernel) (by decide +kernel), by decide +kernel, by decide +kernel⟩
def m_J9_abs_0f7a4 : ZD := (yJ9_abs_0f7a4, cJ9_abs_0f7a4, 1, (some .int), { frames := 0, cells := 0, slots := 0, locals := 0 })
theorem k_J9_abs_0f7a4 : z_Cs m_J9_abs_0f7a4 1 := ⟨z_in2 188 (by decide +kernel) (by decide +kernel), z_in2 187 (by decide +kernel) (by decide +kernel), z_in1 12 (by decide +kernel) (by decide +kernel), by decide +kernel, by decide +kernel⟩
def m_J9_floorDiv_7cf53 : ZD := (yJ9_floorDiv_7cf53, cJ9_floorDiv_7cf53, 3, (some .int), { frames := 0, cells := 0, slots := 0, locals := 0 })
theorem k_J9_floorDiv_7cf53 : z_Cs m_J9_floorDiv_7cf53 2 := ⟨z_in2 140 (by decide +kernel) (by decide +kernel), z_in2 139 (by decide +kernel) (by decide +kernel), z_in1 12 (by decide +kernel) (by decide +kernel), by decide +kernel, by decide +kernel⟩
def m_J9_floorDiv_f86c9 : ZD := (yJ9_floorDiv_f86c9, cJ9_floorDiv_f86c9, 6, (some .long), { frames := 0, cells := 0, slots := 0, locals := 0 })
theorem k_J9_floorDiv_f86c9 : z_Cs m_J9_floorDiv_f86c9 2 := ⟨z_in3 72 (by decide +kernel) (by decide +kernel), z_in3 71 (by decide +kernel) (by decide +kernel), z_in1 12 (by decide +kernel) (by decide +kernel), by decide +kernel, by decide +kernel⟩
def m_J9_floorMod_7cf53 : ZD := (yJ9_floorMod_7cf53, cJ9_floorMod_7cf53, 3, (some .int), { frames := 0, cells := 0, slots := 0, locals := 0 })
theorem k_J9_floorMod_7cf53 : z_Cs m_J9_floorMod_7cf53 2 := ⟨z_in2 119 (by decide +kernel) (by decide +kernel), z_in2 118 (by decide +kernel) (by decide +kernel), z_in1 12 (by decide +kernel) (by decide +kernel), by decide +kernel, by decide +kernel⟩
def m_J9_floorMod_f86c9 : ZD := (yJ9_floorMod_f86c9, cJ9_floorMod_f86c9, 6, (some .long), { frames := 0, cells := 0, slots := 0, locals := 0 })
theorem k_J9_floorMod_f86c9 : z_Cs m_J9_floorMod_f86c9 2 := ⟨z_in4 178 (by decide +kernel) (by decide +kernel), z_in4 177 (by decide +kernel) (by decide +kernel), z_in1 12 (by decide +kernel) (by decide +kernel), by decide +kernel, by decide +kernel⟩
def m_J9_max_7cf53 : ZD := (yJ9_max_7cf53, cJ9_max_7cf53, 2, (some .int), { frames := 0, cells := 0, slots := 0, locals := 0 })
theorem k_J9_max_7cf53 : z_Cs m_J9_max_7cf53 2 := ⟨z_in4 213 (by decide +kernel) (by decide +kernel), z_in4 212 (by decide +kernel) (by decide +kernel), z_in1 12 (by decide +kernel) (by decide +kernel), by decide +kernel, by decide +kernel⟩
def m_J9_max_f86c9 : ZD := (yJ9_max_f86c9, cJ9_max_f86c9, 4, (some .long), { frames := 0, cells := 0, slots := 0, locals := 0 })
theorem k_J9_max_f86c9 : z_Cs m_J9_max_f86c9 2 := ⟨z_in4 23 (by decide +kernel) (by decide +kernel), z_in4 22 (by decide +kernel) (by decide +kernel), z_in1 12 (by decide +kernel) (by decide +kernel), by decide +kernel, by decide +kernel⟩
def m_J9_min_7cf53 : ZD := (yJ9_min_7cf53, cJ9_min_7cf53, 2, (some .int), { frames := 0, cells := 0, slots := 0, locals := 0 })
theorem k_J9_min_7cf53 : z_Cs m_J9_min_7cf53 2 := ⟨z_in2 197 (by decide +kernel) (by decide +kernel), z_in2 196 (by decide +kernel) (by decide +kernel), z_in1 12 (by decide +kernel) (by decide +kernel), by decide +kernel, by decide +kernel⟩
def m_X0_accepts : ZD := (yX0_accepts, cX0_accepts, 2, (some .boolean), { frames := 4, cells := 0, slots := 0, locals := 93 })
theorem k_X0_accepts : z_Cv m_X0_accepts 1 := ⟨z_in3 57 (by decide +kernel) (by decide +kernel), z_in3 55 (by decide +kernel) (by decide +kernel), z_in3 56 (by decide +kernel) (by decide +kernel), z_in1 8 (by decide +kernel) (by decide +kernel), by decide +kernel, by decide +kernel⟩
def m_X0_acceptsClique : ZD := (yX0_acceptsClique, cX0_acceptsClique, 4, (some .boolean), { frames := 3, cells := 0, slots := 0, locals := 70 })
theorem k_X0_acceptsClique : z_Cv m_X0_acceptsClique 1 := ⟨z_in3 88 (by decide +kernel) (by decide +kernel), z_in3 87 (by decide +kernel) (by decide +kernel), z_inp (q := (yX0_acceptsClique, 1)) 27 (by decide +kernel) (by decide +kernel), z_in1 8 (by decide +kernel) (by decide +kernel), by decide +kernel, by decide +kernel⟩
def m_X0_acceptsCover : ZD := (yX0_acceptsCover, cX0_acceptsCover, 7, (some .boolean), { frames := 2, cells := 0, slots := 0, locals := 45 })
theorem k_X0_acceptsCover : z_Cv m_X0_acceptsCover 1 := ⟨z_in3 76 (by decide +kernel) (by decide +kernel), z_in3 75 (by decide +kernel) (by decide +kernel), z_inp (q := (yX0_acceptsCover, 1)) 25 (by decide +kernel) (by decide +kernel), z_in1 8 (by decide +kernel) (by decide +kernel), by decide +kernel, by decide +kernel⟩
def m_X0_acceptsRounding : ZD := (yX0_acceptsRounding, cX0_acceptsRounding, 5, (some .boolean), { frames := 1, cells := 0, slots := 0, locals := 25 })
theorem k_X0_acceptsRounding : z_Cv m_X0_acceptsRounding 1 := ⟨z_in3 61 (by decide +kernel) (by decide +kernel), z_in3 60 (by decide +kernel) (by decide +kernel), z_inp (q := (yX0_acceptsRounding, 1)) 22 (by decide +kernel) (by decide +kernel), z_in1 8 (by decide +kernel) (by decide +kernel), by decide +kernel, by decide +kernel⟩
def m_X0_comingFactor : ZD := (yX0_comingFactor, cX0_comingFactor, 6, (some .long), { frames := 0, cells := 0, slots := 0, locals := 0 })
theorem k_X0_comingFactor : z_Cv m_X0_comingFactor 2 := ⟨z_in3 69 (by decide +kernel) (by decide +kernel), z_in3 68 (by decide +kernel) (by decide +kernel), z_inp (q := (yX0_comingFactor, 1)) 24 (by decide +kernel) (by decide +kernel), z_in1 8 (by decide +kernel) (by decide +kernel), by decide +kernel, by decide +kernel⟩
def m_X0_init : ZD := (yX0_init, cX0_init, 2, none, { frames := 1, cells := 0, slots := 0, locals := 24 })
def m_X0_isTakenBelowZero : ZD := (yX0_isTakenBelowZero, cX0_isTakenBelowZero, 3, (some .boolean), { frames := 0, cells := 0, slots := 0, locals := 0 })
theorem k_X0_isTakenBelowZero : z_Cv m_X0_isTakenBelowZero 1 := ⟨z_in3 65 (by decide +kernel) (by decide +kernel), z_in3 64 (by decide +kernel) (by decide +kernel), z_inp (q := (yX0_isTakenBelowZero, 1)) 23 (by decide +kernel) (by decide +kernel), z_in1 8 (by decide +kernel) (by decide +kernel), by decide +kernel, by decide +kernel⟩
def m_X0_sumOver : ZD := (yX0_sumOver, cX0_sumOver, 5, (some .int), { frames := 1, cells := 0, slots := 0, locals := 21 })
theorem k_X0_sumOver : z_Cv m_X0_sumOver 2 := ⟨z_in3 83 (by decide +kernel) (by decide +kernel), z_in3 82 (by decide +kernel) (by decide +kernel), z_inp (q := (yX0_sumOver, 1)) 26 (by decide +kernel) (by decide +kernel), z_in1 8 (by decide +kernel) (by decide +kernel), by decide +kernel, by decide +kernel⟩
def m_X1_advance : ZD := (yX1_advance, cX1_advance, 2, none, { frames := 1, cells := 0, slots := 0, locals := 24 })
theorem k_X1_advance : z_Cv m_X1_advance 0 := ⟨z_in3 124 (by decide +kernel) (by decide +kernel), z_in3 122 (by decide +kernel) (by decide +kernel), z_in3 123 (by decide +kernel) (by decide +kernel), z_in1 9 (by decide +kernel) (by decide +kernel), by decide +kernel, by decide +kernel⟩
def m_X1_begin : ZD := (yX1_begin, cX1_begin, 2, none, { frames := 1, cells := 0, slots := 0, locals := 24 })
theorem k_X1_begin : z_Cv m_X1_begin 0 := ⟨z_in3 107 (by decide +kernel) (by decide +kernel), z_in3 105 (by decide +kernel) (by decide +kernel), z_in3 106 (by decide +kernel) (by decide +kernel), z_in1 9 (by decide +kernel) (by decide +kernel), by decide +kernel, by decide +kernel⟩
def m_X1_choose : ZD := (yX1_choose, cX1_choose, 5, none, { frames := 0, cells := 0, slots := 0, locals := 0 })
theorem k_X1_choose : z_Cv m_X1_choose 2 := ⟨z_in3 112 (by decide +kernel) (by decide +kernel), z_in3 111 (by decide +kernel) (by decide +kernel), z_inp (q := (yX1_choose, 3)) 28 (by decide +kernel) (by decide +kernel), z_in1 9 (by decide +kernel) (by decide +kernel), by decide +kernel, by decide +kernel⟩
def m_X1_init : ZD := (yX1_init, cX1_init, 2, none, { frames := 1, cells := 2, slots := 18, locals := 24 })
def m_X1_isPlan : ZD := (yX1_isPlan, cX1_isPlan, 2, (some .boolean), { frames := 0, cells := 0, slots := 0, locals := 0 })
theorem k_X1_isPlan : z_Cv m_X1_isPlan 0 := ⟨z_in3 116 (by decide +kernel) (by decide +kernel), z_in3 114 (by decide +kernel) (by decide +kernel), z_in3 115 (by decide +kernel) (by decide +kernel), z_in1 9 (by decide +kernel) (by decide +kernel), by decide +kernel, by decide +kernel⟩
def m_X1_keeps : ZD := (yX1_keeps, cX1_keeps, 4, (some .boolean), { frames := 0, cells := 0, slots := 0, locals := 0 })
theorem k_X1_keeps : z_Cv m_X1_keeps 1 := ⟨z_in3 120 (by decide +kernel) (by decide +kernel), z_in3 118 (by decide +kernel) (by decide +kernel), z_in3 119 (by decide +kernel) (by decide +kernel), z_in1 9 (by decide +kernel) (by decide +kernel), by decide +kernel, by decide +kernel⟩
def m_X2_init : ZD := (yX2_init, cX2_init, 3, none, { frames := 1, cells := 1, slots := 8, locals := 24 })
def m_X2_isWidestClique : ZD := (yX2_isWidestClique, cX2_isWidestClique, 5, (some .boolean), { frames := 1, cells := 0, slots := 0, locals := 21 })
theorem k_X2_isWidestClique : z_Cv m_X2_isWidestClique 1 := ⟨z_in3 10 (by decide +kernel) (by decide +kernel), z_in3 9 (by decide +kernel) (by decide +kernel), z_inp (q := (yX2_isWidestClique, 4)) 18 (by decide +kernel) (by decide +kernel), z_in1 7 (by decide +kernel) (by decide +kernel), by decide +kernel, by decide +kernel⟩
def m_X2_readBinaries : ZD := (yX2_readBinaries, cX2_readBinaries, 2, none, { frames := 1, cells := 0, slots := 0, locals := 21 })
theorem k_X2_readBinaries : z_Cv m_X2_readBinaries 0 := ⟨z_in2 230 (by decide +kernel) (by decide +kernel), z_in2 229 (by decide +kernel) (by decide +kernel), z_inp (q := (yX2_readBinaries, 4)) 15 (by decide +kernel) (by decide +kernel), z_in1 7 (by decide +kernel) (by decide +kernel), by decide +kernel, by decide +kernel⟩
def m_X2_readClashes : ZD := (yX2_readClashes, cX2_readClashes, 3, none, { frames := 3, cells := 0, slots := 0, locals := 70 })
theorem k_X2_readClashes : z_Cv m_X2_readClashes 0 := ⟨z_in2 235 (by decide +kernel) (by decide +kernel), z_in2 234 (by decide +kernel) (by decide +kernel), z_inp (q := (yX2_readClashes, 4)) 16 (by decide +kernel) (by decide +kernel), z_in1 7 (by decide +kernel) (by decide +kernel), by decide +kernel, by decide +kernel⟩
def m_X2_seekCliques : ZD := (yX2_seekCliques, cX2_seekCliques, 2, none, { frames := 4, cells := 0, slots := 0, locals := 92 })
theorem k_X2_seekCliques : z_Cv m_X2_seekCliques 0 := ⟨z_in2 226 (by decide +kernel) (by decide +kernel), z_in2 224 (by decide +kernel) (by decide +kernel), z_in2 225 (by decide +kernel) (by decide +kernel), z_in1 7 (by decide +kernel) (by decide +kernel), by decide +kernel, by decide +kernel⟩
def m_X2_tryClique : ZD := (yX2_tryClique, cX2_tryClique, 4, (some .boolean), { frames := 3, cells := 0, slots := 0, locals := 66 })
theorem k_X2_tryClique : z_Cv m_X2_tryClique 1 := ⟨z_in3 15 (by decide +kernel) (by decide +kernel), z_in3 14 (by decide +kernel) (by decide +kernel), z_inp (q := (yX2_tryClique, 4)) 19 (by decide +kernel) (by decide +kernel), z_in1 7 (by decide +kernel) (by decide +kernel), by decide +kernel, by decide +kernel⟩
def m_X3_giveAlpha : ZD := (yX3_giveAlpha, cX3_giveAlpha, 4, none, { frames := 1, cells := 0, slots := 0, locals := 21 })
theorem k_X3_giveAlpha : z_Cv m_X3_giveAlpha 2 := ⟨z_in2 216 (by decide +kernel) (by decide +kernel), z_in2 215 (by decide +kernel) (by decide +kernel), z_inp (q := (yX3_giveAlpha, 8)) 13 (by decide +kernel) (by decide +kernel), z_in1 6 (by decide +kernel) (by decide +kernel), by decide +kernel, by decide +kernel⟩
def m_X3_greatestSum : ZD := (yX3_greatestSum, cX3_greatestSum, 3, (some .int), { frames := 0, cells := 0, slots := 0, locals := 0 })
theorem k_X3_greatestSum : z_Cv m_X3_greatestSum 1 := ⟨z_in2 220 (by decide +kernel) (by decide +kernel), z_in2 219 (by decide +kernel) (by decide +kernel), z_inp (q := (yX3_greatestSum, 8)) 14 (by decide +kernel) (by decide +kernel), z_in1 6 (by decide +kernel) (by decide +kernel), by decide +kernel, by decide +kernel⟩
def m_X3_init : ZD := (yX3_init, cX3_init, 3, none, { frames := 1, cells := 4, slots := 89, locals := 24 })
def m_X3_isMinimalCover : ZD := (yX3_isMinimalCover, cX3_isMinimalCover, 5, (some .boolean), { frames := 1, cells := 0, slots := 0, locals := 21 })
theorem k_X3_isMinimalCover : z_Cv m_X3_isMinimalCover 1 := ⟨z_in2 192 (by decide +kernel) (by decide +kernel), z_in2 191 (by decide +kernel) (by decide +kernel), z_inp (q := (yX3_isMinimalCover, 8)) 10 (by decide +kernel) (by decide +kernel), z_in1 6 (by decide +kernel) (by decide +kernel), by decide +kernel, by decide +kernel⟩
def m_X3_lift : ZD := (yX3_lift, cX3_lift, 4, none, { frames := 2, cells := 0, slots := 0, locals := 44 })
theorem k_X3_lift : z_Cv m_X3_lift 1 := ⟨z_in2 205 (by decide +kernel) (by decide +kernel), z_in2 204 (by decide +kernel) (by decide +kernel), z_inp (q := (yX3_lift, 8)) 12 (by decide +kernel) (by decide +kernel), z_in1 6 (by decide +kernel) (by decide +kernel), by decide +kernel, by decide +kernel⟩
def m_X3_readLiterals : ZD := (yX3_readLiterals, cX3_readLiterals, 4, none, { frames := 1, cells := 0, slots := 0, locals := 22 })
theorem k_X3_readLiterals : z_Cv m_X3_readLiterals 1 := ⟨z_in2 177 (by decide +kernel) (by decide +kernel), z_in2 176 (by decide +kernel) (by decide +kernel), z_inp (q := (yX3_readLiterals, 8)) 9 (by decide +kernel) (by decide +kernel), z_in1 6 (by decide +kernel) (by decide +kernel), by decide +kernel, by decide +kernel⟩
def m_X3_seekCovers : ZD := (yX3_seekCovers, cX3_seekCovers, 3, none, { frames := 4, cells := 0, slots := 0, locals := 92 })
theorem k_X3_seekCovers : z_Cv m_X3_seekCovers 0 := ⟨z_in2 173 (by decide +kernel) (by decide +kernel), z_in2 171 (by decide +kernel) (by decide +kernel), z_in2 172 (by decide +kernel) (by decide +kernel), z_in1 6 (by decide +kernel) (by decide +kernel), by decide +kernel, by decide +kernel⟩
def m_X3_tryCover : ZD := (yX3_tryCover, cX3_tryCover, 6, (some .boolean), { frames := 3, cells := 0, slots := 0, locals := 67 })
theorem k_X3_tryCover : z_Cv m_X3_tryCover 2 := ⟨z_in2 201 (by decide +kernel) (by decide +kernel), z_in2 200 (by decide +kernel) (by decide +kernel), z_inp (q := (yX3_tryCover, 8)) 11 (by decide +kernel) (by decide +kernel), z_in1 6 (by decide +kernel) (by decide +kernel), by decide +kernel, by decide +kernel⟩
def m_X4_begin : ZD := (yX4_begin, cX4_begin, 2, none, { frames := 1, cells := 0, slots := 0, locals := 23 })
theorem k_X4_begin : z_Cv m_X4_begin 1 := ⟨z_in2 115 (by decide +kernel) (by decide +kernel), z_in2 113 (by decide +kernel) (by decide +kernel), z_in2 114 (by decide +kernel) (by decide +kernel), z_in1 4 (by decide +kernel) (by decide +kernel), by decide +kernel, by decide +kernel⟩
def m_X4_init : ZD := (yX4_init, cX4_init, 1, none, { frames := 1, cells := 4, slots := 34, locals := 24 })
def m_X4_saysTheSameAs : ZD := (yX4_saysTheSameAs, cX4_saysTheSameAs, 4, (some .boolean), { frames := 0, cells := 0, slots := 0, locals := 0 })
theorem k_X4_saysTheSameAs : z_Cv m_X4_saysTheSameAs 2 := ⟨z_in2 157 (by decide +kernel) (by decide +kernel), z_in2 155 (by decide +kernel) (by decide +kernel), z_in2 156 (by decide +kernel) (by decide +kernel), z_in1 4 (by decide +kernel) (by decide +kernel), by decide +kernel, by decide +kernel⟩
def m_X4_showOtherwise : ZD := (yX4_showOtherwise, cX4_showOtherwise, 4, none, { frames := 0, cells := 0, slots := 0, locals := 0 })
theorem k_X4_showOtherwise : z_Cv m_X4_showOtherwise 3 := ⟨z_in3 49 (by decide +kernel) (by decide +kernel), z_in3 47 (by decide +kernel) (by decide +kernel), z_in3 48 (by decide +kernel) (by decide +kernel), z_in1 4 (by decide +kernel) (by decide +kernel), by decide +kernel, by decide +kernel⟩
def m_X4_shown : ZD := (yX4_shown, cX4_shown, 3, (some .int), { frames := 0, cells := 0, slots := 0, locals := 0 })
theorem k_X4_shown : z_Cv m_X4_shown 2 := ⟨z_in3 37 (by decide +kernel) (by decide +kernel), z_in3 35 (by decide +kernel) (by decide +kernel), z_in3 36 (by decide +kernel) (by decide +kernel), z_in1 4 (by decide +kernel) (by decide +kernel), by decide +kernel, by decide +kernel⟩
def m_X5_ageAll : ZD := (yX5_ageAll, cX5_ageAll, 5, (some .int), { frames := 1, cells := 0, slots := 0, locals := 24 })
theorem k_X5_ageAll : z_Cv m_X5_ageAll 0 := ⟨z_in3 136 (by decide +kernel) (by decide +kernel), z_in3 134 (by decide +kernel) (by decide +kernel), z_in3 135 (by decide +kernel) (by decide +kernel), z_in1 3 (by decide +kernel) (by decide +kernel), by decide +kernel, by decide +kernel⟩
def m_X5_has : ZD := (yX5_has, cX5_has, 2, (some .boolean), { frames := 0, cells := 0, slots := 0, locals := 0 })
theorem k_X5_has : z_Cv m_X5_has 1 := ⟨z_in3 29 (by decide +kernel) (by decide +kernel), z_in3 27 (by decide +kernel) (by decide +kernel), z_in3 28 (by decide +kernel) (by decide +kernel), z_in1 3 (by decide +kernel) (by decide +kernel), by decide +kernel, by decide +kernel⟩
def m_X5_init : ZD := (yX5_init, cX5_init, 3, none, { frames := 2, cells := 206, slots := 1804, locals := 44 })
def m_X5_isToldAlready : ZD := (yX5_isToldAlready, cX5_isToldAlready, 3, (some .boolean), { frames := 1, cells := 0, slots := 0, locals := 23 })
theorem k_X5_isToldAlready : z_Cv m_X5_isToldAlready 1 := ⟨z_in2 153 (by decide +kernel) (by decide +kernel), z_in2 152 (by decide +kernel) (by decide +kernel), z_inp (q := (yX5_isToldAlready, 4)) 6 (by decide +kernel) (by decide +kernel), z_in1 3 (by decide +kernel) (by decide +kernel), by decide +kernel, by decide +kernel⟩
def m_X5_newDraft : ZD := (yX5_newDraft, cX5_newDraft, 3, (some (.object "CutProofs$Cut")), { frames := 2, cells := 0, slots := 0, locals := 44 })
theorem k_X5_newDraft : z_Cv m_X5_newDraft 1 := ⟨z_in2 111 (by decide +kernel) (by decide +kernel), z_in2 109 (by decide +kernel) (by decide +kernel), z_in2 110 (by decide +kernel) (by decide +kernel), z_in1 3 (by decide +kernel) (by decide +kernel), by decide +kernel, by decide +kernel⟩
def m_X5_settleDraft : ZD := (yX5_settleDraft, cX5_settleDraft, 1, (some .boolean), { frames := 2, cells := 0, slots := 0, locals := 45 })
theorem k_X5_settleDraft : z_Cv m_X5_settleDraft 0 := ⟨z_in2 144 (by decide +kernel) (by decide +kernel), z_in2 142 (by decide +kernel) (by decide +kernel), z_in2 143 (by decide +kernel) (by decide +kernel), z_in1 3 (by decide +kernel) (by decide +kernel), by decide +kernel, by decide +kernel⟩
def m_X6_addName : ZD := (yX6_addName, cX6_addName, 4, (some .int), { frames := 0, cells := 0, slots := 0, locals := 0 })
theorem k_X6_addName : z_Cv m_X6_addName 2 := ⟨z_in2 60 (by decide +kernel) (by decide +kernel), z_in2 58 (by decide +kernel) (by decide +kernel), z_in2 59 (by decide +kernel) (by decide +kernel), z_in1 2 (by decide +kernel) (by decide +kernel), by decide +kernel, by decide +kernel⟩
def m_X6_addRow : ZD := (yX6_addRow, cX6_addRow, 2, (some .int), { frames := 1, cells := 0, slots := 0, locals := 23 })
theorem k_X6_addRow : z_Cv m_X6_addRow 1 := ⟨z_in2 68 (by decide +kernel) (by decide +kernel), z_in2 66 (by decide +kernel) (by decide +kernel), z_in2 67 (by decide +kernel) (by decide +kernel), z_in1 2 (by decide +kernel) (by decide +kernel), by decide +kernel, by decide +kernel⟩
def m_X6_choices : ZD := (yX6_choices, cX6_choices, 4, (some .long), { frames := 0, cells := 0, slots := 0, locals := 0 })
theorem k_X6_choices : z_Cv m_X6_choices 0 := ⟨z_in3 102 (by decide +kernel) (by decide +kernel), z_in3 100 (by decide +kernel) (by decide +kernel), z_in3 101 (by decide +kernel) (by decide +kernel), z_in1 2 (by decide +kernel) (by decide +kernel), by decide +kernel, by decide +kernel⟩
def m_X6_clashAnywhere : ZD := (yX6_clashAnywhere, cX6_clashAnywhere, 4, (some .boolean), { frames := 2, cells := 0, slots := 0, locals := 47 })
theorem k_X6_clashAnywhere : z_Cv m_X6_clashAnywhere 2 := ⟨z_in3 1 (by decide +kernel) (by decide +kernel), z_in2 239 (by decide +kernel) (by decide +kernel), z_in3 0 (by decide +kernel) (by decide +kernel), z_in1 2 (by decide +kernel) (by decide +kernel), by decide +kernel, by decide +kernel⟩
def m_X6_clashIn : ZD := (yX6_clashIn, cX6_clashIn, 6, (some .boolean), { frames := 1, cells := 0, slots := 0, locals := 22 })
theorem k_X6_clashIn : z_Cv m_X6_clashIn 3 := ⟨z_in3 5 (by decide +kernel) (by decide +kernel), z_in3 4 (by decide +kernel) (by decide +kernel), z_inp (q := (yX6_clashIn, 7)) 17 (by decide +kernel) (by decide +kernel), z_in1 2 (by decide +kernel) (by decide +kernel), by decide +kernel, by decide +kernel⟩
def m_X6_hasName : ZD := (yX6_hasName, cX6_hasName, 2, (some .boolean), { frames := 0, cells := 0, slots := 0, locals := 0 })
theorem k_X6_hasName : z_Cv m_X6_hasName 1 := ⟨z_in2 83 (by decide +kernel) (by decide +kernel), z_in2 81 (by decide +kernel) (by decide +kernel), z_in2 82 (by decide +kernel) (by decide +kernel), z_in1 2 (by decide +kernel) (by decide +kernel), by decide +kernel, by decide +kernel⟩
def m_X6_hasRow : ZD := (yX6_hasRow, cX6_hasRow, 2, (some .boolean), { frames := 0, cells := 0, slots := 0, locals := 0 })
theorem k_X6_hasRow : z_Cv m_X6_hasRow 1 := ⟨z_in2 79 (by decide +kernel) (by decide +kernel), z_in2 77 (by decide +kernel) (by decide +kernel), z_in2 78 (by decide +kernel) (by decide +kernel), z_in1 2 (by decide +kernel) (by decide +kernel), by decide +kernel, by decide +kernel⟩
def m_X6_init : ZD := (yX6_init, cX6_init, 1, none, { frames := 1, cells := 15, slots := 124, locals := 24 })
def m_X6_isBinary : ZD := (yX6_isBinary, cX6_isBinary, 2, (some .boolean), { frames := 0, cells := 0, slots := 0, locals := 0 })
theorem k_X6_isBinary : z_Cv m_X6_isBinary 1 := ⟨z_in2 181 (by decide +kernel) (by decide +kernel), z_in2 179 (by decide +kernel) (by decide +kernel), z_in2 180 (by decide +kernel) (by decide +kernel), z_in1 2 (by decide +kernel) (by decide +kernel), by decide +kernel, by decide +kernel⟩
def m_X6_least : ZD := (yX6_least, cX6_least, 3, (some .int), { frames := 0, cells := 0, slots := 0, locals := 0 })
theorem k_X6_least : z_Cv m_X6_least 2 := ⟨z_in2 185 (by decide +kernel) (by decide +kernel), z_in2 183 (by decide +kernel) (by decide +kernel), z_in2 184 (by decide +kernel) (by decide +kernel), z_in1 2 (by decide +kernel) (by decide +kernel), by decide +kernel, by decide +kernel⟩
def m_X6_scaledStrength : ZD := (yX6_scaledStrength, cX6_scaledStrength, 5, (some .long), { frames := 0, cells := 0, slots := 0, locals := 0 })
theorem k_X6_scaledStrength : z_Cv m_X6_scaledStrength 1 := ⟨z_in2 148 (by decide +kernel) (by decide +kernel), z_in2 146 (by decide +kernel) (by decide +kernel), z_in2 147 (by decide +kernel) (by decide +kernel), z_in1 2 (by decide +kernel) (by decide +kernel), by decide +kernel, by decide +kernel⟩
def m_X7_divideAndSettle : ZD := (yX7_divideAndSettle, cX7_divideAndSettle, 4, (some .boolean), { frames := 3, cells := 0, slots := 0, locals := 65 })
theorem k_X7_divideAndSettle : z_Cv m_X7_divideAndSettle 2 := ⟨z_in2 137 (by decide +kernel) (by decide +kernel), z_in2 136 (by decide +kernel) (by decide +kernel), z_inp (q := (yX7_divideAndSettle, 4)) 5 (by decide +kernel) (by decide +kernel), z_in1 5 (by decide +kernel) (by decide +kernel), by decide +kernel, by decide +kernel⟩
def m_X7_init : ZD := (yX7_init, cX7_init, 3, none, { frames := 1, cells := 1, slots := 8, locals := 24 })
def m_X7_isHighNearer : ZD := (yX7_isHighNearer, cX7_isHighNearer, 2, (some .boolean), { frames := 0, cells := 0, slots := 0, locals := 0 })
theorem k_X7_isHighNearer : z_Cv m_X7_isHighNearer 1 := ⟨z_in2 123 (by decide +kernel) (by decide +kernel), z_in2 122 (by decide +kernel) (by decide +kernel), z_inp (q := (yX7_isHighNearer, 4)) 2 (by decide +kernel) (by decide +kernel), z_in1 5 (by decide +kernel) (by decide +kernel), by decide +kernel, by decide +kernel⟩
def m_X7_isLowCheaper : ZD := (yX7_isLowCheaper, cX7_isLowCheaper, 8, (some .boolean), { frames := 0, cells := 0, slots := 0, locals := 0 })
theorem k_X7_isLowCheaper : z_Cv m_X7_isLowCheaper 3 := ⟨z_in2 169 (by decide +kernel) (by decide +kernel), z_in2 168 (by decide +kernel) (by decide +kernel), z_inp (q := (yX7_isLowCheaper, 4)) 8 (by decide +kernel) (by decide +kernel), z_in1 5 (by decide +kernel) (by decide +kernel), by decide +kernel, by decide +kernel⟩
def m_X7_moveSumTo : ZD := (yX7_moveSumTo, cX7_moveSumTo, 6, none, { frames := 1, cells := 0, slots := 0, locals := 21 })
theorem k_X7_moveSumTo : z_Cv m_X7_moveSumTo 1 := ⟨z_in2 100 (by decide +kernel) (by decide +kernel), z_in2 99 (by decide +kernel) (by decide +kernel), z_inp (q := (yX7_moveSumTo, 4)) 0 (by decide +kernel) (by decide +kernel), z_in1 5 (by decide +kernel) (by decide +kernel), by decide +kernel, by decide +kernel⟩
def m_X7_seekHalves : ZD := (yX7_seekHalves, cX7_seekHalves, 2, none, { frames := 5, cells := 0, slots := 0, locals := 111 })
theorem k_X7_seekHalves : z_Cv m_X7_seekHalves 0 := ⟨z_in2 95 (by decide +kernel) (by decide +kernel), z_in2 93 (by decide +kernel) (by decide +kernel), z_in2 94 (by decide +kernel) (by decide +kernel), z_in1 5 (by decide +kernel) (by decide +kernel), by decide +kernel, by decide +kernel⟩
def m_X7_seekRounded : ZD := (yX7_seekRounded, cX7_seekRounded, 3, none, { frames := 5, cells := 0, slots := 0, locals := 113 })
theorem k_X7_seekRounded : z_Cv m_X7_seekRounded 0 := ⟨z_in2 161 (by decide +kernel) (by decide +kernel), z_in2 159 (by decide +kernel) (by decide +kernel), z_in2 160 (by decide +kernel) (by decide +kernel), z_in1 5 (by decide +kernel) (by decide +kernel), by decide +kernel, by decide +kernel⟩
def m_X7_takeHigh : ZD := (yX7_takeHigh, cX7_takeHigh, 4, none, { frames := 0, cells := 0, slots := 0, locals := 0 })
theorem k_X7_takeHigh : z_Cv m_X7_takeHigh 3 := ⟨z_in2 129 (by decide +kernel) (by decide +kernel), z_in2 128 (by decide +kernel) (by decide +kernel), z_inp (q := (yX7_takeHigh, 4)) 3 (by decide +kernel) (by decide +kernel), z_in1 5 (by decide +kernel) (by decide +kernel), by decide +kernel, by decide +kernel⟩
def m_X7_takeLow : ZD := (yX7_takeLow, cX7_takeLow, 4, none, { frames := 0, cells := 0, slots := 0, locals := 0 })
theorem k_X7_takeLow : z_Cv m_X7_takeLow 3 := ⟨z_in2 133 (by decide +kernel) (by decide +kernel), z_in2 132 (by decide +kernel) (by decide +kernel), z_inp (q := (yX7_takeLow, 4)) 4 (by decide +kernel) (by decide +kernel), z_in1 5 (by decide +kernel) (by decide +kernel), by decide +kernel, by decide +kernel⟩
def m_X7_tryHalves : ZD := (yX7_tryHalves, cX7_tryHalves, 4, (some .boolean), { frames := 4, cells := 0, slots := 0, locals := 88 })
theorem k_X7_tryHalves : z_Cv m_X7_tryHalves 1 := ⟨z_in2 107 (by decide +kernel) (by decide +kernel), z_in2 106 (by decide +kernel) (by decide +kernel), z_inp (q := (yX7_tryHalves, 4)) 1 (by decide +kernel) (by decide +kernel), z_in1 5 (by decide +kernel) (by decide +kernel), by decide +kernel, by decide +kernel⟩
def m_X7_tryRounded : ZD := (yX7_tryRounded, cX7_tryRounded, 6, (some .boolean), { frames := 4, cells := 0, slots := 0, locals := 88 })
theorem k_X7_tryRounded : z_Cv m_X7_tryRounded 2 := ⟨z_in2 165 (by decide +kernel) (by decide +kernel), z_in2 164 (by decide +kernel) (by decide +kernel), z_inp (q := (yX7_tryRounded, 4)) 7 (by decide +kernel) (by decide +kernel), z_in1 5 (by decide +kernel) (by decide +kernel), by decide +kernel, by decide +kernel⟩
def m_X8_best : ZD := (yX8_best, cX8_best, 7, (some .int), { frames := 1, cells := 0, slots := 0, locals := 24 })
theorem k_X8_best : z_Cv m_X8_best 0 := ⟨z_in3 93 (by decide +kernel) (by decide +kernel), z_in3 91 (by decide +kernel) (by decide +kernel), z_in3 92 (by decide +kernel) (by decide +kernel), z_in1 1 (by decide +kernel) (by decide +kernel), by decide +kernel, by decide +kernel⟩
def m_X8_check : ZD := (yX8_check, cX8_check, 2, (some .int), { frames := 5, cells := 0, slots := 0, locals := 114 })
theorem k_X8_check : z_Cv m_X8_check 1 := ⟨z_in3 53 (by decide +kernel) (by decide +kernel), z_in3 51 (by decide +kernel) (by decide +kernel), z_in3 52 (by decide +kernel) (by decide +kernel), z_in1 1 (by decide +kernel) (by decide +kernel), by decide +kernel, by decide +kernel⟩
def m_X8_clear : ZD := (yX8_clear, cX8_clear, 1, none, { frames := 0, cells := 0, slots := 0, locals := 0 })
theorem k_X8_clear : z_Cv m_X8_clear 0 := ⟨z_in3 152 (by decide +kernel) (by decide +kernel), z_in3 150 (by decide +kernel) (by decide +kernel), z_in3 151 (by decide +kernel) (by decide +kernel), z_in1 1 (by decide +kernel) (by decide +kernel), by decide +kernel, by decide +kernel⟩
def m_X8_closed : ZD := (yX8_closed, cX8_closed, 1, (some .int), { frames := 0, cells := 0, slots := 0, locals := 0 })
theorem k_X8_closed : z_Cv m_X8_closed 0 := ⟨z_in3 21 (by decide +kernel) (by decide +kernel), z_in3 19 (by decide +kernel) (by decide +kernel), z_in3 20 (by decide +kernel) (by decide +kernel), z_in1 1 (by decide +kernel) (by decide +kernel), by decide +kernel, by decide +kernel⟩
def m_X8_commonWithScale : ZD := (yX8_commonWithScale, cX8_commonWithScale, 9, (some .long), { frames := 1, cells := 0, slots := 0, locals := 23 })
theorem k_X8_commonWithScale : z_Cs m_X8_commonWithScale 1 := ⟨z_in4 16 (by decide +kernel) (by decide +kernel), z_in4 15 (by decide +kernel) (by decide +kernel), z_in1 1 (by decide +kernel) (by decide +kernel), by decide +kernel, by decide +kernel⟩
def m_X8_countAccepted : ZD := (yX8_countAccepted, cX8_countAccepted, 3, (some .int), { frames := 5, cells := 0, slots := 0, locals := 114 })
theorem k_X8_countAccepted : z_Cv m_X8_countAccepted 0 := ⟨z_in3 148 (by decide +kernel) (by decide +kernel), z_in3 147 (by decide +kernel) (by decide +kernel), z_inp (q := (yX8_countAccepted, 7)) 30 (by decide +kernel) (by decide +kernel), z_in1 1 (by decide +kernel) (by decide +kernel), by decide +kernel, by decide +kernel⟩
def m_X8_countBroken : ZD := (yX8_countBroken, cX8_countBroken, 3, (some .int), { frames := 1, cells := 0, slots := 0, locals := 24 })
theorem k_X8_countBroken : z_Cv m_X8_countBroken 0 := ⟨z_in3 144 (by decide +kernel) (by decide +kernel), z_in3 143 (by decide +kernel) (by decide +kernel), z_inp (q := (yX8_countBroken, 7)) 29 (by decide +kernel) (by decide +kernel), z_in1 1 (by decide +kernel) (by decide +kernel), by decide +kernel, by decide +kernel⟩
def m_X8_cut : ZD := (yX8_cut, cX8_cut, 5, (some .int), { frames := 1, cells := 0, slots := 0, locals := 21 })
theorem k_X8_cut : z_Cv m_X8_cut 3 := ⟨z_in3 161 (by decide +kernel) (by decide +kernel), z_in3 159 (by decide +kernel) (by decide +kernel), z_in3 160 (by decide +kernel) (by decide +kernel), z_in1 1 (by decide +kernel) (by decide +kernel), by decide +kernel, by decide +kernel⟩
def m_X8_factor : ZD := (yX8_factor, cX8_factor, 5, (some .int), { frames := 1, cells := 0, slots := 0, locals := 21 })
theorem k_X8_factor : z_Cv m_X8_factor 3 := ⟨z_in2 75 (by decide +kernel) (by decide +kernel), z_in2 73 (by decide +kernel) (by decide +kernel), z_in2 74 (by decide +kernel) (by decide +kernel), z_in1 1 (by decide +kernel) (by decide +kernel), by decide +kernel, by decide +kernel⟩
def m_X8_find : ZD := (yX8_find, cX8_find, 3, (some .int), { frames := 6, cells := 0, slots := 0, locals := 135 })
theorem k_X8_find : z_Cv m_X8_find 1 := ⟨z_in2 91 (by decide +kernel) (by decide +kernel), z_in2 89 (by decide +kernel) (by decide +kernel), z_in2 90 (by decide +kernel) (by decide +kernel), z_in1 1 (by decide +kernel) (by decide +kernel), by decide +kernel, by decide +kernel⟩
def m_X8_holds : ZD := (yX8_holds, cX8_holds, 6, (some .int), { frames := 2, cells := 0, slots := 0, locals := 45 })
theorem k_X8_holds : z_Cv m_X8_holds 1 := ⟨z_in3 98 (by decide +kernel) (by decide +kernel), z_in3 96 (by decide +kernel) (by decide +kernel), z_in3 97 (by decide +kernel) (by decide +kernel), z_in1 1 (by decide +kernel) (by decide +kernel), by decide +kernel, by decide +kernel⟩
def m_X8_init : ZD := (yX8_init, cX8_init, 1, none, { frames := 3, cells := 236, slots := 2082, locals := 66 })
def m_X8_isBeyond : ZD := (yX8_isBeyond, cX8_isBeyond, 2, (some .boolean), { frames := 0, cells := 0, slots := 0, locals := 0 })
theorem k_X8_isBeyond : z_Cs m_X8_isBeyond 2 := ⟨z_in2 56 (by decide +kernel) (by decide +kernel), z_in2 55 (by decide +kernel) (by decide +kernel), z_in1 1 (by decide +kernel) (by decide +kernel), by decide +kernel, by decide +kernel⟩
def m_X8_isIn : ZD := (yX8_isIn, cX8_isIn, 2, (some .boolean), { frames := 0, cells := 0, slots := 0, locals := 0 })
theorem k_X8_isIn : z_Cs m_X8_isIn 2 := ⟨z_in2 103 (by decide +kernel) (by decide +kernel), z_in2 102 (by decide +kernel) (by decide +kernel), z_in1 1 (by decide +kernel) (by decide +kernel), by decide +kernel, by decide +kernel⟩
def m_X8_name : ZD := (yX8_name, cX8_name, 3, (some .int), { frames := 1, cells := 0, slots := 0, locals := 23 })
theorem k_X8_name : z_Cv m_X8_name 2 := ⟨z_in2 53 (by decide +kernel) (by decide +kernel), z_in2 51 (by decide +kernel) (by decide +kernel), z_in2 52 (by decide +kernel) (by decide +kernel), z_in1 1 (by decide +kernel) (by decide +kernel), by decide +kernel, by decide +kernel⟩
def m_X8_plans : ZD := (yX8_plans, cX8_plans, 5, (some .int), { frames := 2, cells := 0, slots := 0, locals := 45 })
theorem k_X8_plans : z_Cv m_X8_plans 0 := ⟨z_in3 128 (by decide +kernel) (by decide +kernel), z_in3 126 (by decide +kernel) (by decide +kernel), z_in3 127 (by decide +kernel) (by decide +kernel), z_in1 1 (by decide +kernel) (by decide +kernel), by decide +kernel, by decide +kernel⟩
def m_X8_plant : ZD := (yX8_plant, cX8_plant, 7, (some .int), { frames := 3, cells := 0, slots := 0, locals := 68 })
theorem k_X8_plant : z_Cv m_X8_plant 4 := ⟨z_in3 41 (by decide +kernel) (by decide +kernel), z_in3 39 (by decide +kernel) (by decide +kernel), z_in3 40 (by decide +kernel) (by decide +kernel), z_in1 1 (by decide +kernel) (by decide +kernel), by decide +kernel, by decide +kernel⟩
def m_X8_point : ZD := (yX8_point, cX8_point, 4, (some .int), { frames := 1, cells := 0, slots := 0, locals := 21 })
theorem k_X8_point : z_Cv m_X8_point 3 := ⟨z_in2 87 (by decide +kernel) (by decide +kernel), z_in2 85 (by decide +kernel) (by decide +kernel), z_in2 86 (by decide +kernel) (by decide +kernel), z_in1 1 (by decide +kernel) (by decide +kernel), by decide +kernel, by decide +kernel⟩
def m_X8_proof : ZD := (yX8_proof, cX8_proof, 6, (some .int), { frames := 2, cells := 0, slots := 0, locals := 45 })
theorem k_X8_proof : z_Cv m_X8_proof 3 := ⟨z_in3 25 (by decide +kernel) (by decide +kernel), z_in3 23 (by decide +kernel) (by decide +kernel), z_in3 24 (by decide +kernel) (by decide +kernel), z_in1 1 (by decide +kernel) (by decide +kernel), by decide +kernel, by decide +kernel⟩
def m_X8_refusalOfPlanted : ZD := (yX8_refusalOfPlanted, cX8_refusalOfPlanted, 4, (some .int), { frames := 2, cells := 0, slots := 0, locals := 45 })
theorem k_X8_refusalOfPlanted : z_Cv m_X8_refusalOfPlanted 3 := ⟨z_in3 45 (by decide +kernel) (by decide +kernel), z_in3 44 (by decide +kernel) (by decide +kernel), z_inp (q := (yX8_refusalOfPlanted, 7)) 21 (by decide +kernel) (by decide +kernel), z_in1 1 (by decide +kernel) (by decide +kernel), by decide +kernel, by decide +kernel⟩
def m_X8_refusalOfShown : ZD := (yX8_refusalOfShown, cX8_refusalOfShown, 5, (some .int), { frames := 1, cells := 0, slots := 0, locals := 21 })
theorem k_X8_refusalOfShown : z_Cv m_X8_refusalOfShown 3 := ⟨z_in3 33 (by decide +kernel) (by decide +kernel), z_in3 32 (by decide +kernel) (by decide +kernel), z_inp (q := (yX8_refusalOfShown, 7)) 20 (by decide +kernel) (by decide +kernel), z_in1 1 (by decide +kernel) (by decide +kernel), by decide +kernel, by decide +kernel⟩
def m_X8_row : ZD := (yX8_row, cX8_row, 2, (some .int), { frames := 2, cells := 0, slots := 0, locals := 44 })
theorem k_X8_row : z_Cv m_X8_row 1 := ⟨z_in2 64 (by decide +kernel) (by decide +kernel), z_in2 62 (by decide +kernel) (by decide +kernel), z_in2 63 (by decide +kernel) (by decide +kernel), z_in1 1 (by decide +kernel) (by decide +kernel), by decide +kernel, by decide +kernel⟩
def m_X8_strength : ZD := (yX8_strength, cX8_strength, 7, (some .long), { frames := 2, cells := 0, slots := 0, locals := 51 })
theorem k_X8_strength : z_Cv m_X8_strength 2 := ⟨z_in4 12 (by decide +kernel) (by decide +kernel), z_in4 10 (by decide +kernel) (by decide +kernel), z_in4 11 (by decide +kernel) (by decide +kernel), z_in1 1 (by decide +kernel) (by decide +kernel), by decide +kernel, by decide +kernel⟩
def m_X8_told : ZD := (yX8_told, cX8_told, 2, (some .int), { frames := 6, cells := 0, slots := 0, locals := 136 })
theorem k_X8_told : z_Cv m_X8_told 1 := ⟨z_in3 140 (by decide +kernel) (by decide +kernel), z_in3 138 (by decide +kernel) (by decide +kernel), z_in3 139 (by decide +kernel) (by decide +kernel), z_in1 1 (by decide +kernel) (by decide +kernel), by decide +kernel, by decide +kernel⟩
def m_X8_turn : ZD := (yX8_turn, cX8_turn, 1, (some .int), { frames := 2, cells := 0, slots := 0, locals := 48 })
theorem k_X8_turn : z_Cv m_X8_turn 0 := ⟨z_in3 132 (by decide +kernel) (by decide +kernel), z_in3 130 (by decide +kernel) (by decide +kernel), z_in3 131 (by decide +kernel) (by decide +kernel), z_in1 1 (by decide +kernel) (by decide +kernel), by decide +kernel, by decide +kernel⟩
def m_X9_accepts : ZD := (yX9_accepts, cX9_accepts, 2, (some .boolean), { frames := 3, cells := 0, slots := 0, locals := 73 })
theorem k_X9_accepts : z_Cv m_X9_accepts 1 := ⟨z_in5 17 (by decide +kernel) (by decide +kernel), z_in5 16 (by decide +kernel) (by decide +kernel), z_inp (q := (yX9_accepts, 25)) 56 (by decide +kernel) (by decide +kernel), z_in1 10 (by decide +kernel) (by decide +kernel), by decide +kernel, by decide +kernel⟩
def m_X9_acceptsClique : ZD := (yX9_acceptsClique, cX9_acceptsClique, 6, (some .boolean), { frames := 2, cells := 0, slots := 0, locals := 48 })
theorem k_X9_acceptsClique : z_Cv m_X9_acceptsClique 1 := ⟨z_in5 29 (by decide +kernel) (by decide +kernel), z_in5 28 (by decide +kernel) (by decide +kernel), z_inp (q := (yX9_acceptsClique, 25)) 59 (by decide +kernel) (by decide +kernel), z_in1 10 (by decide +kernel) (by decide +kernel), by decide +kernel, by decide +kernel⟩
def m_X9_acceptsCover : ZD := (yX9_acceptsCover, cX9_acceptsCover, 12, (some .boolean), { frames := 1, cells := 0, slots := 0, locals := 23 })
theorem k_X9_acceptsCover : z_Cv m_X9_acceptsCover 1 := ⟨z_in5 25 (by decide +kernel) (by decide +kernel), z_in5 24 (by decide +kernel) (by decide +kernel), z_inp (q := (yX9_acceptsCover, 25)) 58 (by decide +kernel) (by decide +kernel), z_in1 10 (by decide +kernel) (by decide +kernel), by decide +kernel, by decide +kernel⟩
def m_X9_acceptsSum : ZD := (yX9_acceptsSum, cX9_acceptsSum, 14, (some .boolean), { frames := 1, cells := 0, slots := 0, locals := 25 })
theorem k_X9_acceptsSum : z_Cv m_X9_acceptsSum 1 := ⟨z_in5 21 (by decide +kernel) (by decide +kernel), z_in5 20 (by decide +kernel) (by decide +kernel), z_inp (q := (yX9_acceptsSum, 25)) 57 (by decide +kernel) (by decide +kernel), z_in1 10 (by decide +kernel) (by decide +kernel), by decide +kernel, by decide +kernel⟩
def m_X9_best : ZD := (yX9_best, cX9_best, 3, (some .int), { frames := 1, cells := 0, slots := 0, locals := 24 })
theorem k_X9_best : z_Cv m_X9_best 0 := ⟨z_in5 41 (by decide +kernel) (by decide +kernel), z_in5 39 (by decide +kernel) (by decide +kernel), z_in5 40 (by decide +kernel) (by decide +kernel), z_in1 10 (by decide +kernel) (by decide +kernel), by decide +kernel, by decide +kernel⟩
def m_X9_check : ZD := (yX9_check, cX9_check, 2, (some .int), { frames := 4, cells := 0, slots := 0, locals := 94 })
theorem k_X9_check : z_Cv m_X9_check 1 := ⟨z_in5 13 (by decide +kernel) (by decide +kernel), z_in5 11 (by decide +kernel) (by decide +kernel), z_in5 12 (by decide +kernel) (by decide +kernel), z_in1 10 (by decide +kernel) (by decide +kernel), by decide +kernel, by decide +kernel⟩
def m_X9_clash : ZD := (yX9_clash, cX9_clash, 6, (some .boolean), { frames := 1, cells := 0, slots := 0, locals := 23 })
theorem k_X9_clash : z_Cv m_X9_clash 2 := ⟨z_in4 225 (by decide +kernel) (by decide +kernel), z_in4 224 (by decide +kernel) (by decide +kernel), z_inp (q := (yX9_clash, 25)) 53 (by decide +kernel) (by decide +kernel), z_in1 10 (by decide +kernel) (by decide +kernel), by decide +kernel, by decide +kernel⟩
def m_X9_clear : ZD := (yX9_clear, cX9_clear, 1, none, { frames := 0, cells := 0, slots := 0, locals := 0 })
theorem k_X9_clear : z_Cv m_X9_clear 0 := ⟨z_in5 78 (by decide +kernel) (by decide +kernel), z_in5 76 (by decide +kernel) (by decide +kernel), z_in5 77 (by decide +kernel) (by decide +kernel), z_in1 10 (by decide +kernel) (by decide +kernel), by decide +kernel, by decide +kernel⟩
def m_X9_cliques : ZD := (yX9_cliques, cX9_cliques, 3, none, { frames := 3, cells := 0, slots := 0, locals := 73 })
theorem k_X9_cliques : z_Cv m_X9_cliques 0 := ⟨z_in4 217 (by decide +kernel) (by decide +kernel), z_in4 216 (by decide +kernel) (by decide +kernel), z_inp (q := (yX9_cliques, 25)) 51 (by decide +kernel) (by decide +kernel), z_in1 10 (by decide +kernel) (by decide +kernel), by decide +kernel, by decide +kernel⟩
def m_X9_closed : ZD := (yX9_closed, cX9_closed, 1, (some .int), { frames := 0, cells := 0, slots := 0, locals := 0 })
theorem k_X9_closed : z_Cv m_X9_closed 0 := ⟨z_in4 229 (by decide +kernel) (by decide +kernel), z_in4 227 (by decide +kernel) (by decide +kernel), z_in4 228 (by decide +kernel) (by decide +kernel), z_in1 10 (by decide +kernel) (by decide +kernel), by decide +kernel, by decide +kernel⟩
def m_X9_count : ZD := (yX9_count, cX9_count, 7, (some .int), { frames := 1, cells := 0, slots := 0, locals := 23 })
theorem k_X9_count : z_Cv m_X9_count 1 := ⟨z_in5 54 (by decide +kernel) (by decide +kernel), z_in5 53 (by decide +kernel) (by decide +kernel), z_inp (q := (yX9_count, 25)) 62 (by decide +kernel) (by decide +kernel), z_in1 10 (by decide +kernel) (by decide +kernel), by decide +kernel, by decide +kernel⟩
def m_X9_cover : ZD := (yX9_cover, cX9_cover, 8, none, { frames := 2, cells := 0, slots := 0, locals := 49 })
theorem k_X9_cover : z_Cv m_X9_cover 2 := ⟨z_in4 206 (by decide +kernel) (by decide +kernel), z_in4 205 (by decide +kernel) (by decide +kernel), z_inp (q := (yX9_cover, 25)) 49 (by decide +kernel) (by decide +kernel), z_in1 10 (by decide +kernel) (by decide +kernel), by decide +kernel, by decide +kernel⟩
def m_X9_covers : ZD := (yX9_covers, cX9_covers, 3, none, { frames := 3, cells := 0, slots := 0, locals := 76 })
theorem k_X9_covers : z_Cv m_X9_covers 0 := ⟨z_in4 182 (by decide +kernel) (by decide +kernel), z_in4 181 (by decide +kernel) (by decide +kernel), z_inp (q := (yX9_covers, 25)) 43 (by decide +kernel) (by decide +kernel), z_in1 10 (by decide +kernel) (by decide +kernel), by decide +kernel, by decide +kernel⟩
def m_X9_cut : ZD := (yX9_cut, cX9_cut, 4, (some .int), { frames := 1, cells := 0, slots := 0, locals := 21 })
theorem k_X9_cut : z_Cv m_X9_cut 3 := ⟨z_in4 233 (by decide +kernel) (by decide +kernel), z_in4 231 (by decide +kernel) (by decide +kernel), z_in4 232 (by decide +kernel) (by decide +kernel), z_in1 10 (by decide +kernel) (by decide +kernel), by decide +kernel, by decide +kernel⟩
def m_X9_divide : ZD := (yX9_divide, cX9_divide, 3, none, { frames := 1, cells := 0, slots := 0, locals := 25 })
theorem k_X9_divide : z_Cv m_X9_divide 1 := ⟨z_in4 162 (by decide +kernel) (by decide +kernel), z_in4 161 (by decide +kernel) (by decide +kernel), z_inp (q := (yX9_divide, 25)) 39 (by decide +kernel) (by decide +kernel), z_in1 10 (by decide +kernel) (by decide +kernel), by decide +kernel, by decide +kernel⟩
def m_X9_emptied : ZD := (yX9_emptied, cX9_emptied, 2, none, { frames := 0, cells := 0, slots := 0, locals := 0 })
theorem k_X9_emptied : z_Cv m_X9_emptied 0 := ⟨z_in4 146 (by decide +kernel) (by decide +kernel), z_in4 145 (by decide +kernel) (by decide +kernel), z_inp (q := (yX9_emptied, 25)) 35 (by decide +kernel) (by decide +kernel), z_in1 10 (by decide +kernel) (by decide +kernel), by decide +kernel, by decide +kernel⟩
def m_X9_factor : ZD := (yX9_factor, cX9_factor, 5, (some .int), { frames := 1, cells := 0, slots := 0, locals := 21 })
theorem k_X9_factor : z_Cv m_X9_factor 3 := ⟨z_in4 121 (by decide +kernel) (by decide +kernel), z_in4 119 (by decide +kernel) (by decide +kernel), z_in4 120 (by decide +kernel) (by decide +kernel), z_in1 10 (by decide +kernel) (by decide +kernel), by decide +kernel, by decide +kernel⟩
def m_X9_find : ZD := (yX9_find, cX9_find, 2, (some .int), { frames := 4, cells := 0, slots := 0, locals := 98 })
theorem k_X9_find : z_Cv m_X9_find 1 := ⟨z_in4 138 (by decide +kernel) (by decide +kernel), z_in4 136 (by decide +kernel) (by decide +kernel), z_in4 137 (by decide +kernel) (by decide +kernel), z_in1 10 (by decide +kernel) (by decide +kernel), by decide +kernel, by decide +kernel⟩
def m_X9_findLiterals : ZD := (yX9_findLiterals, cX9_findLiterals, 4, none, { frames := 1, cells := 0, slots := 0, locals := 23 })
theorem k_X9_findLiterals : z_Cv m_X9_findLiterals 1 := ⟨z_in4 186 (by decide +kernel) (by decide +kernel), z_in4 185 (by decide +kernel) (by decide +kernel), z_inp (q := (yX9_findLiterals, 25)) 44 (by decide +kernel) (by decide +kernel), z_in1 10 (by decide +kernel) (by decide +kernel), by decide +kernel, by decide +kernel⟩
def m_X9_goesOn : ZD := (yX9_goesOn, cX9_goesOn, 2, (some .boolean), { frames := 0, cells := 0, slots := 0, locals := 0 })
theorem k_X9_goesOn : z_Cv m_X9_goesOn 0 := ⟨z_in5 62 (by decide +kernel) (by decide +kernel), z_in5 61 (by decide +kernel) (by decide +kernel), z_inp (q := (yX9_goesOn, 25)) 64 (by decide +kernel) (by decide +kernel), z_in1 10 (by decide +kernel) (by decide +kernel), by decide +kernel, by decide +kernel⟩
def m_X9_greatest : ZD := (yX9_greatest, cX9_greatest, 7, (some .int), { frames := 1, cells := 0, slots := 0, locals := 23 })
theorem k_X9_greatest : z_Cv m_X9_greatest 2 := ⟨z_in4 210 (by decide +kernel) (by decide +kernel), z_in4 209 (by decide +kernel) (by decide +kernel), z_inp (q := (yX9_greatest, 25)) 50 (by decide +kernel) (by decide +kernel), z_in1 10 (by decide +kernel) (by decide +kernel), by decide +kernel, by decide +kernel⟩
def m_X9_halves : ZD := (yX9_halves, cX9_halves, 3, none, { frames := 2, cells := 0, slots := 0, locals := 47 })
theorem k_X9_halves : z_Cv m_X9_halves 0 := ⟨z_in4 142 (by decide +kernel) (by decide +kernel), z_in4 141 (by decide +kernel) (by decide +kernel), z_inp (q := (yX9_halves, 25)) 34 (by decide +kernel) (by decide +kernel), z_in1 10 (by decide +kernel) (by decide +kernel), by decide +kernel, by decide +kernel⟩
def m_X9_holds : ZD := (yX9_holds, cX9_holds, 2, (some .int), { frames := 2, cells := 0, slots := 0, locals := 49 })
theorem k_X9_holds : z_Cv m_X9_holds 1 := ⟨z_in5 45 (by decide +kernel) (by decide +kernel), z_in5 43 (by decide +kernel) (by decide +kernel), z_in5 44 (by decide +kernel) (by decide +kernel), z_in1 10 (by decide +kernel) (by decide +kernel), by decide +kernel, by decide +kernel⟩
def m_X9_init : ZD := (yX9_init, cX9_init, 1, none, { frames := 1, cells := 16, slots := 1701, locals := 24 })
def m_X9_isBinary : ZD := (yX9_isBinary, cX9_isBinary, 2, (some .boolean), { frames := 0, cells := 0, slots := 0, locals := 0 })
theorem k_X9_isBinary : z_Cv m_X9_isBinary 1 := ⟨z_in4 190 (by decide +kernel) (by decide +kernel), z_in4 189 (by decide +kernel) (by decide +kernel), z_inp (q := (yX9_isBinary, 25)) 45 (by decide +kernel) (by decide +kernel), z_in1 10 (by decide +kernel) (by decide +kernel), by decide +kernel, by decide +kernel⟩
def m_X9_isClique : ZD := (yX9_isClique, cX9_isClique, 6, (some .boolean), { frames := 2, cells := 0, slots := 0, locals := 48 })
theorem k_X9_isClique : z_Cv m_X9_isClique 1 := ⟨z_in4 221 (by decide +kernel) (by decide +kernel), z_in4 220 (by decide +kernel) (by decide +kernel), z_inp (q := (yX9_isClique, 25)) 52 (by decide +kernel) (by decide +kernel), z_in1 10 (by decide +kernel) (by decide +kernel), by decide +kernel, by decide +kernel⟩
def m_X9_isCover : ZD := (yX9_isCover, cX9_isCover, 5, (some .boolean), { frames := 1, cells := 0, slots := 0, locals := 23 })
theorem k_X9_isCover : z_Cv m_X9_isCover 1 := ⟨z_in4 198 (by decide +kernel) (by decide +kernel), z_in4 197 (by decide +kernel) (by decide +kernel), z_inp (q := (yX9_isCover, 25)) 47 (by decide +kernel) (by decide +kernel), z_in1 10 (by decide +kernel) (by decide +kernel), by decide +kernel, by decide +kernel⟩
def m_X9_isCut : ZD := (yX9_isCut, cX9_isCut, 2, (some .boolean), { frames := 0, cells := 0, slots := 0, locals := 0 })
theorem k_X9_isCut : z_Cv m_X9_isCut 1 := ⟨z_in4 237 (by decide +kernel) (by decide +kernel), z_in4 236 (by decide +kernel) (by decide +kernel), z_inp (q := (yX9_isCut, 25)) 54 (by decide +kernel) (by decide +kernel), z_in1 10 (by decide +kernel) (by decide +kernel), by decide +kernel, by decide +kernel⟩
def m_X9_isName : ZD := (yX9_isName, cX9_isName, 2, (some .boolean), { frames := 0, cells := 0, slots := 0, locals := 0 })
theorem k_X9_isName : z_Cv m_X9_isName 1 := ⟨z_in4 129 (by decide +kernel) (by decide +kernel), z_in4 128 (by decide +kernel) (by decide +kernel), z_inp (q := (yX9_isName, 25)) 33 (by decide +kernel) (by decide +kernel), z_in1 10 (by decide +kernel) (by decide +kernel), by decide +kernel, by decide +kernel⟩
def m_X9_isPlan : ZD := (yX9_isPlan, cX9_isPlan, 4, (some .boolean), { frames := 0, cells := 0, slots := 0, locals := 0 })
theorem k_X9_isPlan : z_Cv m_X9_isPlan 0 := ⟨z_in5 58 (by decide +kernel) (by decide +kernel), z_in5 57 (by decide +kernel) (by decide +kernel), z_inp (q := (yX9_isPlan, 25)) 63 (by decide +kernel) (by decide +kernel), z_in1 10 (by decide +kernel) (by decide +kernel), by decide +kernel, by decide +kernel⟩
def m_X9_isRow : ZD := (yX9_isRow, cX9_isRow, 2, (some .boolean), { frames := 0, cells := 0, slots := 0, locals := 0 })
theorem k_X9_isRow : z_Cv m_X9_isRow 1 := ⟨z_in4 125 (by decide +kernel) (by decide +kernel), z_in4 124 (by decide +kernel) (by decide +kernel), z_inp (q := (yX9_isRow, 25)) 32 (by decide +kernel) (by decide +kernel), z_in1 10 (by decide +kernel) (by decide +kernel), by decide +kernel, by decide +kernel⟩
def m_X9_isThere : ZD := (yX9_isThere, cX9_isThere, 4, (some .boolean), { frames := 0, cells := 0, slots := 0, locals := 0 })
theorem k_X9_isThere : z_Cv m_X9_isThere 0 := ⟨z_in4 171 (by decide +kernel) (by decide +kernel), z_in4 170 (by decide +kernel) (by decide +kernel), z_inp (q := (yX9_isThere, 25)) 41 (by decide +kernel) (by decide +kernel), z_in1 10 (by decide +kernel) (by decide +kernel), by decide +kernel, by decide +kernel⟩
def m_X9_least : ZD := (yX9_least, cX9_least, 4, (some .int), { frames := 0, cells := 0, slots := 0, locals := 0 })
theorem k_X9_least : z_Cv m_X9_least 2 := ⟨z_in4 194 (by decide +kernel) (by decide +kernel), z_in4 193 (by decide +kernel) (by decide +kernel), z_inp (q := (yX9_least, 25)) 46 (by decide +kernel) (by decide +kernel), z_in1 10 (by decide +kernel) (by decide +kernel), by decide +kernel, by decide +kernel⟩
def m_X9_name : ZD := (yX9_name, cX9_name, 4, (some .int), { frames := 0, cells := 0, slots := 0, locals := 0 })
theorem k_X9_name : z_Cv m_X9_name 2 := ⟨z_in4 113 (by decide +kernel) (by decide +kernel), z_in4 111 (by decide +kernel) (by decide +kernel), z_in4 112 (by decide +kernel) (by decide +kernel), z_in1 10 (by decide +kernel) (by decide +kernel), by decide +kernel, by decide +kernel⟩
def m_X9_offer : ZD := (yX9_offer, cX9_offer, 5, none, { frames := 1, cells := 0, slots := 0, locals := 23 })
theorem k_X9_offer : z_Cv m_X9_offer 1 := ⟨z_in4 167 (by decide +kernel) (by decide +kernel), z_in4 166 (by decide +kernel) (by decide +kernel), z_inp (q := (yX9_offer, 25)) 40 (by decide +kernel) (by decide +kernel), z_in1 10 (by decide +kernel) (by decide +kernel), by decide +kernel, by decide +kernel⟩
def m_X9_over : ZD := (yX9_over, cX9_over, 5, (some .long), { frames := 0, cells := 0, slots := 0, locals := 0 })
theorem k_X9_over : z_Cv m_X9_over 1 := ⟨z_in5 37 (by decide +kernel) (by decide +kernel), z_in5 36 (by decide +kernel) (by decide +kernel), z_inp (q := (yX9_over, 25)) 60 (by decide +kernel) (by decide +kernel), z_in1 10 (by decide +kernel) (by decide +kernel), by decide +kernel, by decide +kernel⟩
def m_X9_placeOf : ZD := (yX9_placeOf, cX9_placeOf, 5, (some .int), { frames := 1, cells := 0, slots := 0, locals := 21 })
theorem k_X9_placeOf : z_Cv m_X9_placeOf 3 := ⟨z_in5 5 (by decide +kernel) (by decide +kernel), z_in5 4 (by decide +kernel) (by decide +kernel), z_inp (q := (yX9_placeOf, 25)) 55 (by decide +kernel) (by decide +kernel), z_in1 10 (by decide +kernel) (by decide +kernel), by decide +kernel, by decide +kernel⟩
def m_X9_plans : ZD := (yX9_plans, cX9_plans, 1, (some .int), { frames := 2, cells := 0, slots := 0, locals := 49 })
theorem k_X9_plans : z_Cv m_X9_plans 0 := ⟨z_in5 66 (by decide +kernel) (by decide +kernel), z_in5 64 (by decide +kernel) (by decide +kernel), z_in5 65 (by decide +kernel) (by decide +kernel), z_in1 10 (by decide +kernel) (by decide +kernel), by decide +kernel, by decide +kernel⟩
def m_X9_plant : ZD := (yX9_plant, cX9_plant, 6, (some .int), { frames := 2, cells := 0, slots := 0, locals := 45 })
theorem k_X9_plant : z_Cv m_X9_plant 4 := ⟨z_in5 9 (by decide +kernel) (by decide +kernel), z_in5 7 (by decide +kernel) (by decide +kernel), z_in5 8 (by decide +kernel) (by decide +kernel), z_in1 10 (by decide +kernel) (by decide +kernel), by decide +kernel, by decide +kernel⟩
def m_X9_point : ZD := (yX9_point, cX9_point, 4, (some .int), { frames := 1, cells := 0, slots := 0, locals := 21 })
theorem k_X9_point : z_Cv m_X9_point 3 := ⟨z_in4 133 (by decide +kernel) (by decide +kernel), z_in4 131 (by decide +kernel) (by decide +kernel), z_in4 132 (by decide +kernel) (by decide +kernel), z_in1 10 (by decide +kernel) (by decide +kernel), by decide +kernel, by decide +kernel⟩
def m_X9_proof : ZD := (yX9_proof, cX9_proof, 5, (some .int), { frames := 2, cells := 0, slots := 0, locals := 45 })
theorem k_X9_proof : z_Cv m_X9_proof 3 := ⟨z_in5 1 (by decide +kernel) (by decide +kernel), z_in4 239 (by decide +kernel) (by decide +kernel), z_in5 0 (by decide +kernel) (by decide +kernel), z_in1 10 (by decide +kernel) (by decide +kernel), by decide +kernel, by decide +kernel⟩
def m_X9_rounded : ZD := (yX9_rounded, cX9_rounded, 5, none, { frames := 2, cells := 0, slots := 0, locals := 47 })
theorem k_X9_rounded : z_Cv m_X9_rounded 0 := ⟨z_in4 175 (by decide +kernel) (by decide +kernel), z_in4 174 (by decide +kernel) (by decide +kernel), z_inp (q := (yX9_rounded, 25)) 42 (by decide +kernel) (by decide +kernel), z_in1 10 (by decide +kernel) (by decide +kernel), by decide +kernel, by decide +kernel⟩
def m_X9_row : ZD := (yX9_row, cX9_row, 3, (some .int), { frames := 0, cells := 0, slots := 0, locals := 0 })
theorem k_X9_row : z_Cv m_X9_row 1 := ⟨z_in4 117 (by decide +kernel) (by decide +kernel), z_in4 115 (by decide +kernel) (by decide +kernel), z_in4 116 (by decide +kernel) (by decide +kernel), z_in1 10 (by decide +kernel) (by decide +kernel), by decide +kernel, by decide +kernel⟩
def m_X9_strength : ZD := (yX9_strength, cX9_strength, 11, (some .long), { frames := 1, cells := 0, slots := 0, locals := 24 })
theorem k_X9_strength : z_Cv m_X9_strength 2 := ⟨z_in5 33 (by decide +kernel) (by decide +kernel), z_in5 31 (by decide +kernel) (by decide +kernel), z_in5 32 (by decide +kernel) (by decide +kernel), z_in1 10 (by decide +kernel) (by decide +kernel), by decide +kernel, by decide +kernel⟩
def m_X9_takeHigh : ZD := (yX9_takeHigh, cX9_takeHigh, 3, none, { frames := 0, cells := 0, slots := 0, locals := 0 })
theorem k_X9_takeHigh : z_Cv m_X9_takeHigh 2 := ⟨z_in4 154 (by decide +kernel) (by decide +kernel), z_in4 153 (by decide +kernel) (by decide +kernel), z_inp (q := (yX9_takeHigh, 25)) 37 (by decide +kernel) (by decide +kernel), z_in1 10 (by decide +kernel) (by decide +kernel), by decide +kernel, by decide +kernel⟩
def m_X9_takeLow : ZD := (yX9_takeLow, cX9_takeLow, 3, none, { frames := 0, cells := 0, slots := 0, locals := 0 })
theorem k_X9_takeLow : z_Cv m_X9_takeLow 2 := ⟨z_in4 158 (by decide +kernel) (by decide +kernel), z_in4 157 (by decide +kernel) (by decide +kernel), z_inp (q := (yX9_takeLow, 25)) 38 (by decide +kernel) (by decide +kernel), z_in1 10 (by decide +kernel) (by decide +kernel), by decide +kernel, by decide +kernel⟩
def m_X9_takeRow : ZD := (yX9_takeRow, cX9_takeRow, 3, none, { frames := 0, cells := 0, slots := 0, locals := 0 })
theorem k_X9_takeRow : z_Cv m_X9_takeRow 1 := ⟨z_in4 150 (by decide +kernel) (by decide +kernel), z_in4 149 (by decide +kernel) (by decide +kernel), z_inp (q := (yX9_takeRow, 25)) 36 (by decide +kernel) (by decide +kernel), z_in1 10 (by decide +kernel) (by decide +kernel), by decide +kernel, by decide +kernel⟩
def m_X9_thrown : ZD := (yX9_thrown, cX9_thrown, 1, (some .int), { frames := 0, cells := 0, slots := 0, locals := 0 })
theorem k_X9_thrown : z_Cv m_X9_thrown 0 := ⟨z_in4 109 (by decide +kernel) (by decide +kernel), z_in4 107 (by decide +kernel) (by decide +kernel), z_in4 108 (by decide +kernel) (by decide +kernel), z_in1 10 (by decide +kernel) (by decide +kernel), by decide +kernel, by decide +kernel⟩
def m_X9_told : ZD := (yX9_told, cX9_told, 4, (some .int), { frames := 4, cells := 0, slots := 0, locals := 94 })
theorem k_X9_told : z_Cv m_X9_told 1 := ⟨z_in5 74 (by decide +kernel) (by decide +kernel), z_in5 72 (by decide +kernel) (by decide +kernel), z_in5 73 (by decide +kernel) (by decide +kernel), z_in1 10 (by decide +kernel) (by decide +kernel), by decide +kernel, by decide +kernel⟩
def m_X9_tooMany : ZD := (yX9_tooMany, cX9_tooMany, 4, (some .boolean), { frames := 0, cells := 0, slots := 0, locals := 0 })
theorem k_X9_tooMany : z_Cv m_X9_tooMany 0 := ⟨z_in5 49 (by decide +kernel) (by decide +kernel), z_in5 48 (by decide +kernel) (by decide +kernel), z_inp (q := (yX9_tooMany, 25)) 61 (by decide +kernel) (by decide +kernel), z_in1 10 (by decide +kernel) (by decide +kernel), by decide +kernel, by decide +kernel⟩
def m_X9_turn : ZD := (yX9_turn, cX9_turn, 6, (some .int), { frames := 1, cells := 0, slots := 0, locals := 24 })
theorem k_X9_turn : z_Cv m_X9_turn 0 := ⟨z_in5 70 (by decide +kernel) (by decide +kernel), z_in5 68 (by decide +kernel) (by decide +kernel), z_in5 69 (by decide +kernel) (by decide +kernel), z_in1 10 (by decide +kernel) (by decide +kernel), by decide +kernel, by decide +kernel⟩
def m_X9_weightOf : ZD := (yX9_weightOf, cX9_weightOf, 4, (some .int), { frames := 0, cells := 0, slots := 0, locals := 0 })
theorem k_X9_weightOf : z_Cv m_X9_weightOf 1 := ⟨z_in4 202 (by decide +kernel) (by decide +kernel), z_in4 201 (by decide +kernel) (by decide +kernel), z_inp (q := (yX9_weightOf, 25)) 48 (by decide +kernel) (by decide +kernel), z_in1 10 (by decide +kernel) (by decide +kernel), by decide +kernel, by decide +kernel⟩
end
section
/-! calls of methods whose answer and state are known -/
def z_P (v : Option AwV) (sz : Nat) (I J : AwI) (R : AwR) : ZQ := fun r sz' I' J' R' => r = v ∧ sz' = sz ∧ I' = I ∧ J' = J ∧ R' = R
def z_n0 (d : ZD) : Prop := d.2.2.2.2.cells = 0 ∧ d.2.2.2.2.slots = 0
section AWP
variable {F : ZF} {cells slots sz pc : Nat} {lv lv' : List (Option AwV)} {st stk : List AwV} {I J : AwI} {R : AwR}
theorem z_kk {d : ZD} (h0 : z_n0 d) {P : Nat → Nat → Prop} (h : P cells slots) : P (cells + d.2.2.2.2.cells) (slots + d.2.2.2.2.slots) := by
  rw [h0.1, h0.2]
  exact h
theorem aw_qV {d : ZD} {As : List AwV} {a c idx n : Nat} {Q : ZQ} (hM : CT d (zr a :: As) sz I J R Q) (hc : z_Cv d n) (hd : decode F.2.1 pc = .ok (.invokevirtual idx, 3)) (hl : Cond.methodLink F.1.cls idx d.1 ∈ z_tb) (hn : As.length = n) (h0 : z_n0 d) (ha : a < sz) (hs : z_sh a = (c + 10, z_cn c)) (hC : (vwCl[c]?).map (fun q => q.1) = some d.1.cls) (hrm : z_Rm d F) (hce : cells ≤ F.2.2.2.2.1.cells ∧ slots ≤ F.2.2.2.2.1.slots) (hst : stk = As.reverse ++ zr a :: st) (hw : (st.map z_c12).sum ≤ 8)
    (kk : ∀ r sz' I' J' R', Q r sz' I' J' R' → AW F cells slots sz' (pc + 3) lv (r.toList ++ st) I' J' R') : AW F cells slots sz pc lv stk I J R :=
  aw_invV hM hc hd hl hn ha hs hC hrm (by rw [h0.1, h0.2]; exact hce) hst hw (fun r sz' I' J' R' q => z_kk h0 (P := fun a b => AW F a b sz' (pc + 3) lv (r.toList ++ st) I' J' R') (kk r sz' I' J' R' q))
theorem aw_qS {d : ZD} {As : List AwV} {idx n : Nat} {Q : ZQ} (hM : CT d As sz I J R Q) (hc : z_Cs d n) (hd : decode F.2.1 pc = .ok (.invokestatic idx, 3)) (hl : Cond.methodLink F.1.cls idx d.1 ∈ z_tb) (hn : As.length = n) (h0 : z_n0 d) (hrm : z_Rm d F) (hce : cells ≤ F.2.2.2.2.1.cells ∧ slots ≤ F.2.2.2.2.1.slots) (hst : stk = As.reverse ++ st) (hw : (st.map z_c12).sum ≤ 8)
    (kk : ∀ r sz' I' J' R', Q r sz' I' J' R' → AW F cells slots sz' (pc + 3) lv (r.toList ++ st) I' J' R') : AW F cells slots sz pc lv stk I J R :=
  aw_invS hM hc hd hl hn hrm (by rw [h0.1, h0.2]; exact hce) hst hw (fun r sz' I' J' R' q => z_kk h0 (P := fun a b => AW F a b sz' (pc + 3) lv (r.toList ++ st) I' J' R') (kk r sz' I' J' R' q))
theorem aw_qN {d : ZD} {As : List AwV} {idx n : Nat} {Q : ZQ} (hM : CT d As sz I J R Q) (hc : z_Cs d n) (hd : decode F.2.1 pc = .ok (.invokestatic idx, 3)) (hl : Cond.methodLinkNest F.1.cls idx d.1 "CutProofs" ∈ z_nl) (hn : As.length = n) (h0 : z_n0 d) (hrm : z_Rm d F) (hce : cells ≤ F.2.2.2.2.1.cells ∧ slots ≤ F.2.2.2.2.1.slots) (hst : stk = As.reverse ++ st) (hw : (st.map z_c12).sum ≤ 8)
    (kk : ∀ r sz' I' J' R', Q r sz' I' J' R' → AW F cells slots sz' (pc + 3) lv (r.toList ++ st) I' J' R') : AW F cells slots sz pc lv stk I J R :=
  aw_invSN hM hc hd hl hn hrm (by rw [h0.1, h0.2]; exact hce) hst hw (fun r sz' I' J' R' q => z_kk h0 (P := fun a b => AW F a b sz' (pc + 3) lv (r.toList ++ st) I' J' R') (kk r sz' I' J' R' q))
theorem z_Pk {v : Option AwV} {sz2 : Nat} {I2 J2 : AwI} {R2 : AwR} {P : Option AwV → Nat → AwI → AwI → AwR → Prop} (h : P v sz2 I2 J2 R2) : ∀ r sz' I' J' R', z_P v sz2 I2 J2 R2 r sz' I' J' R' → P r sz' I' J' R' := by
  rintro _ _ _ _ _ ⟨rfl, rfl, rfl, rfl, rfl⟩
  exact h
end AWP
/-- the references of the system: fixed, but for the order of the cuts' slots -/
def z_R (π : Nat → Nat) : AwR := fun a k =>
  if a = 0 then ([1, 17, 224, 226, 231, 233, 234] : List Nat)[k]? else
  if a = 1 then ([2, 3, 4, 5, 16] : List Nat)[k]? else
  if a = 5 then some (6 + k) else
  if a = 17 then ([some 18, none, none, some 1] : List (Option Nat)).getD k none else
  if a = 18 then some (19 + 5 * π k) else
  if a < 224 then some (a + 1 + k) else
  if a = 224 then ([1, 17, 225] : List Nat)[k]? else
  if a = 226 then ([1, 17, 227, 228, 229, 230] : List Nat)[k]? else
  if a = 231 then ([1, 17, 232] : List Nat)[k]? else
  if a = 233 then ([1] : List Nat)[k]? else
  if a = 234 then ([1, 235, 236] : List Nat)[k]? else
  if a = 237 then ([none, some 238, some 239, some 240, none, some 241, some 242, none, some 243, some 244, some 245, some 246, some 247, none, none, none, some 248, none, some 249, some 250, some 251, some 252, none, none, some 253] : List (Option Nat)).getD k none else none
theorem z_Rc (π : Nat → Nat) {c : Nat} (k : Nat) (h : c < 41) : z_R π (19 + 5 * c) k = some (19 + 5 * c + 1 + k) := by
  unfold z_R
  rw [if_neg (by omega), if_neg (by omega), if_neg (by omega), if_neg (by omega), if_neg (by omega), if_pos (by omega)]
theorem z_shc0 {c : Nat} (h : c < 41) : z_sh (19 + 5 * c) = (14, 9) := by
  unfold z_sh
  rw [if_neg (by omega), if_pos (by omega), show (19 + 5 * c - 19) % 5 = 0 by omega]
  rfl
theorem z_shc1 {c : Nat} (h : c < 41) : z_sh (19 + 5 * c + 1) = (0, 8) := by
  unfold z_sh
  rw [if_neg (by omega), if_pos (by omega), show (19 + 5 * c + 1 - 19) % 5 = 1 by omega]
  rfl
theorem z_Rc0 (π : Nat → Nat) {c : Nat} (h : c < 41) : z_R π (19 + 5 * c) 0 = some (19 + 5 * c + 1) := by
  rw [z_Rc π 0 h]
theorem z_shc2 {c : Nat} (h : c < 41) : z_sh (19 + 5 * c + 2) = (0, 10) := by
  unfold z_sh
  rw [if_neg (by omega), if_pos (by omega), show (19 + 5 * c + 2 - 19) % 5 = 2 by omega]
  rfl
theorem z_Rc1 (π : Nat → Nat) {c : Nat} (h : c < 41) : z_R π (19 + 5 * c) 1 = some (19 + 5 * c + 2) := by
  rw [z_Rc π 1 h]
theorem z_shc3 {c : Nat} (h : c < 41) : z_sh (19 + 5 * c + 3) = (0, 8) := by
  unfold z_sh
  rw [if_neg (by omega), if_pos (by omega), show (19 + 5 * c + 3 - 19) % 5 = 3 by omega]
  rfl
theorem z_Rc2 (π : Nat → Nat) {c : Nat} (h : c < 41) : z_R π (19 + 5 * c) 2 = some (19 + 5 * c + 3) := by
  rw [z_Rc π 2 h]
theorem z_shc4 {c : Nat} (h : c < 41) : z_sh (19 + 5 * c + 4) = (0, 8) := by
  unfold z_sh
  rw [if_neg (by omega), if_pos (by omega), show (19 + 5 * c + 4 - 19) % 5 = 4 by omega]
  rfl
theorem z_Rc3 (π : Nat → Nat) {c : Nat} (h : c < 41) : z_R π (19 + 5 * c) 3 = some (19 + 5 * c + 4) := by
  rw [z_Rc π 3 h]
theorem z_shr : ∀ r, r < 10 → z_sh (6 + r) = (0, 8) := by decide +kernel
section AWV
variable {F : ZF} {cells slots sz pc : Nat} {lv lv' : List (Option AwV)} {st stk : List AwV} {I J : AwI} {R : AwR}
theorem aw_getV {a c idx k : Nat} {fin : Bool} {t : FieldType} {v : Int} (hd : decode F.2.1 pc = .ok (.getfield idx, 3)) (hl : z_Fl F.1.cls idx c k fin t) (hf : z_fk c k = 0) (ha : a < sz) (hs : z_sh a = (c + 10, z_cn c)) (hv : I a k = v) (kk : AW F cells slots sz (pc + 3) lv (zi v :: st) I J R) : AW F cells slots sz pc lv (zr a :: st) I J R := by
  subst hv
  exact aw_getI hd hl hf ha hs kk
theorem aw_getW {a c idx k : Nat} {fin : Bool} {t : FieldType} {v : Int} (hd : decode F.2.1 pc = .ok (.getfield idx, 3)) (hl : z_Fl F.1.cls idx c k fin t) (hf : z_fk c k = 1) (ha : a < sz) (hs : z_sh a = (c + 10, z_cn c)) (hv : J a k = v) (kk : AW F cells slots sz (pc + 3) lv (zl v :: st) I J R) : AW F cells slots sz pc lv (zr a :: st) I J R := by
  subst hv
  exact aw_getJ hd hl hf ha hs kk
theorem aw_ialoadV {a n : Nat} {i v : Int} (hd : decode F.2.1 pc = .ok (.iaload, 1)) (ha : a < sz) (hz : sz ≤ 255) (hs : z_sh a = (0, n)) (hi : 0 ≤ i ∧ i < (n : Int)) (hv : I a i.toNat = v) (k : AW F cells slots sz (pc + 1) lv (zi v :: st) I J R) : AW F cells slots sz pc lv (zi i :: zr a :: st) I J R := by
  subst hv
  exact aw_iaload hd ha hz hs hi k
theorem aw_laloadV {a n : Nat} {i v : Int} (hd : decode F.2.1 pc = .ok (.laload, 1)) (ha : a < sz) (hz : sz ≤ 255) (hs : z_sh a = (1, n)) (hi : 0 ≤ i ∧ i < (n : Int)) (hv : J a i.toNat = v) (k : AW F cells slots sz (pc + 1) lv (zl v :: st) I J R) : AW F cells slots sz pc lv (zi i :: zr a :: st) I J R := by
  subst hv
  exact aw_laload hd ha hz hs hi k
/-- the state on the stack under another name -/
theorem aw_eq {st2 : List AwV} (h : st = st2) (k : AW F cells slots sz pc lv st2 I J R) : AW F cells slots sz pc lv st I J R := h ▸ k
end AWV
theorem k_cst_X8_178 : Cond.constantLong RX8 178 (Int64.ofInt 27720) ∈ z_tb := z_in4 17 (by decide +kernel) (by decide +kernel)
theorem k_cst_X8_184 : Cond.constantLong RX8 184 (Int64.ofInt 20000) ∈ z_tb := z_in3 103 (by decide +kernel) (by decide +kernel)
theorem k_cst_X3_79 : Cond.constant RX3 79 (Int32.ofInt 1000000) ∈ z_tb := z_in2 193 (by decide +kernel) (by decide +kernel)
theorem k_cst_X6_58 : Cond.constantLong RX6 58 (Int64.ofInt 27720) ∈ z_tb := z_in2 149 (by decide +kernel) (by decide +kernel)
theorem k_cst_X7_106 : Cond.constantLong RX7 106 (Int64.ofInt 2) ∈ z_tb := z_in2 124 (by decide +kernel) (by decide +kernel)
theorem k_cst_X7_112 : Cond.constantLong RX7 112 (Int64.ofInt 27720) ∈ z_tb := z_in2 125 (by decide +kernel) (by decide +kernel)
theorem k_cst_X9_82 : Cond.constantLong RX9 82 (Int64.ofInt 27720) ∈ z_tb := z_in4 134 (by decide +kernel) (by decide +kernel)
theorem k_cst_X9_198 : Cond.constantLong RX9 198 (Int64.ofInt 20000) ∈ z_tb := z_in5 50 (by decide +kernel) (by decide +kernel)
theorem k_cst_J6_265 : Cond.constant RJ6 265 (Int32.ofInt 1431655765) ∈ z_tb := z_in2 209 (by decide +kernel) (by decide +kernel)
theorem k_cst_J6_266 : Cond.constant RJ6 266 (Int32.ofInt 858993459) ∈ z_tb := z_in2 210 (by decide +kernel) (by decide +kernel)
theorem k_cst_J6_267 : Cond.constant RJ6 267 (Int32.ofInt 252645135) ∈ z_tb := z_in2 211 (by decide +kernel) (by decide +kernel)
end
section
noncomputable def z_bl (p : Prop) : Int := @ite _ p (Classical.propDecidable p) 1 0
theorem z_bl_t {p : Prop} (h : p) : z_bl p = 1 := if_pos h
theorem z_bl_f {p : Prop} (h : ¬ p) : z_bl p = 0 := if_neg h
theorem z_bl_r (p : Prop) : -2147483648 ≤ z_bl p ∧ z_bl p ≤ 2147483647 := by
  by_cases h : p
  · rw [z_bl_t h]; omega
  · rw [z_bl_f h]; omega
theorem z_bl_01 (p : Prop) : z_bl p = 0 ∨ z_bl p = 1 := by
  by_cases h : p
  · rw [z_bl_t h]; omega
  · rw [z_bl_f h]; omega
theorem z_bl_0 {p : Prop} : z_bl p = 0 ↔ ¬ p := by
  by_cases h : p
  · rw [z_bl_t h]; simp [h]
  · rw [z_bl_f h]; simp [h]
theorem z_bl_n {p : Prop} : z_bl p ≠ 0 ↔ p := by
  by_cases h : p
  · rw [z_bl_t h]; simp [h]
  · rw [z_bl_f h]; simp [h]
theorem z_bl_c {p q : Prop} (h : p ↔ q) : z_bl p = z_bl q := by rw [propext h]
theorem z_r1 {p : Prop} (h : p) : some (zi 1) = some (zi (z_bl p)) := by rw [z_bl_t h]
theorem z_r0 {p : Prop} (h : ¬ p) : some (zi 0) = some (zi (z_bl p)) := by rw [z_bl_f h]
def z_sum (f : Nat → Int) : Nat → Int
  | 0 => 0
  | n + 1 => z_sum f n + f n
def z_sm (f : Nat → Int) (x : Int) : Int := z_sum f x.toNat
theorem z_sm_0 (f : Nat → Int) : z_sm f 0 = 0 := rfl
theorem z_sm_s (f : Nat → Int) {x : Int} (h : 0 ≤ x) : z_sm f (x + 1) = z_sm f x + f x.toNat := by
  unfold z_sm
  rw [show (x + 1).toNat = x.toNat + 1 by omega]
  rfl
theorem z_sum_c {f g : Nat → Int} : ∀ n : Nat, (∀ k, k < n → f k = g k) → z_sum f n = z_sum g n
  | 0, _ => rfl
  | n + 1, h => by
    show z_sum f n + f n = z_sum g n + g n
    rw [z_sum_c n (fun k hk => h k (by omega)), h n (by omega)]
theorem z_sum_b {f : Nat → Int} (B : Int) : ∀ n : Nat, (∀ k, k < n → -B ≤ f k ∧ f k ≤ B) → -(n * B) ≤ z_sum f n ∧ z_sum f n ≤ n * B
  | 0, _ => by simp [z_sum]
  | n + 1, h => by
    have h1 := z_sum_b B n (fun k hk => h k (by omega))
    have h2 := h n (by omega)
    have e : ((n + 1 : Nat) : Int) * B = n * B + B := by rw [Int.natCast_add, Int.add_mul]; simp
    rw [e]
    show _ ≤ z_sum f n + f n ∧ z_sum f n + f n ≤ _
    omega
theorem z_sm_b {f : Nat → Int} (B : Int) (x : Int) (N : Nat) (hx : x ≤ N) (hB : 0 ≤ B) (h : ∀ k, -B ≤ f k ∧ f k ≤ B) : -(N * B) ≤ z_sm f x ∧ z_sm f x ≤ N * B := by
  have h1 := z_sum_b B x.toNat (fun k _ => h k)
  have h2 : (x.toNat : Int) * B ≤ N * B := Int.mul_le_mul_of_nonneg_right (by omega) hB
  unfold z_sm
  omega
theorem z_mulb {a b A B : Int} (ha : -A ≤ a ∧ a ≤ A) (hb : -B ≤ b ∧ b ≤ B) : -(A * B) ≤ a * b ∧ a * b ≤ A * B := by
  have hA : 0 ≤ A := by omega
  have hB : 0 ≤ B := by omega
  have h1 : a.natAbs * b.natAbs ≤ A.natAbs * B.natAbs := Nat.mul_le_mul (by omega) (by omega)
  have h2 : (a * b).natAbs = a.natAbs * b.natAbs := Int.natAbs_mul a b
  have h3 : (A * B).natAbs = A.natAbs * B.natAbs := Int.natAbs_mul A B
  have h4 : 0 ≤ A * B := Int.mul_nonneg hA hB
  omega
def z_le (f lo hi : Int) : Int := if f < 0 then f * hi else f * lo
theorem z_le_b {f lo hi F B : Int} (hf : -F ≤ f ∧ f ≤ F) (hl : -B ≤ lo ∧ lo ≤ B) (hh : -B ≤ hi ∧ hi ≤ B) : -(F * B) ≤ z_le f lo hi ∧ z_le f lo hi ≤ F * B := by
  unfold z_le
  split
  · exact z_mulb hf hh
  · exact z_mulb hf hl
/-- the bounds of the class's model -/
def z_M (I J : AwI) : Prop := (0 ≤ I 1 5 ∧ I 1 5 ≤ 8) ∧ (0 ≤ I 1 6 ∧ I 1 6 ≤ 10) ∧ (∀ n, -30 ≤ I 2 n ∧ I 2 n ≤ 30) ∧ (∀ n, -30 ≤ I 3 n ∧ I 3 n ≤ 30) ∧ (∀ n, -11088000 ≤ J 4 n ∧ J 4 n ≤ 11088000) ∧ (∀ r n, r < 10 → -50 ≤ I (6 + r) n ∧ I (6 + r) n ≤ 50) ∧ (∀ r, -9999 ≤ I 16 r ∧ I 16 r ≤ 9999)
theorem z_M.nm {I J : AwI} (h : z_M I J) : 0 ≤ I 1 5 ∧ I 1 5 ≤ 8 := h.1
theorem z_M.rw {I J : AwI} (h : z_M I J) : 0 ≤ I 1 6 ∧ I 1 6 ≤ 10 := h.2.1
theorem z_M.lo {I J : AwI} (h : z_M I J) (n : Nat) : -30 ≤ I 2 n ∧ I 2 n ≤ 30 := h.2.2.1 n
theorem z_M.hi {I J : AwI} (h : z_M I J) (n : Nat) : -30 ≤ I 3 n ∧ I 3 n ≤ 30 := h.2.2.2.1 n
theorem z_M.pt {I J : AwI} (h : z_M I J) (n : Nat) : -11088000 ≤ J 4 n ∧ J 4 n ≤ 11088000 := h.2.2.2.2.1 n
theorem z_M.fc {I J : AwI} (h : z_M I J) (r n : Nat) (hr : r < 10) : -50 ≤ I (6 + r) n ∧ I (6 + r) n ≤ 50 := h.2.2.2.2.2.1 r n hr
theorem z_M.rt {I J : AwI} (h : z_M I J) (r : Nat) : -9999 ≤ I 16 r ∧ I 16 r ≤ 9999 := h.2.2.2.2.2.2 r
theorem z_M.congr {I J I' J' : AwI} (h : z_M I J) (hI : ∀ a k, a < 17 → I' a k = I a k) (hJ : ∀ k, J' 4 k = J 4 k) : z_M I' J' := by
  refine ⟨?_, ?_, fun n => ?_, fun n => ?_, fun n => ?_, fun r n hr => ?_, fun r => ?_⟩
  · rw [hI _ _ (by omega)]; exact h.nm
  · rw [hI _ _ (by omega)]; exact h.rw
  · rw [hI _ _ (by omega)]; exact h.lo n
  · rw [hI _ _ (by omega)]; exact h.hi n
  · rw [hJ]; exact h.pt n
  · rw [hI _ _ (by omega)]; exact h.fc r n hr
  · rw [hI _ _ (by omega)]; exact h.rt r
/-- the least of name n in row r, the class's numbers -/
def z_cl (I : AwI) (r n : Nat) : Int := z_le (I (6 + r) n) (I 2 n) (I 3 n)
theorem z_M.cl {I J : AwI} (h : z_M I J) (r n : Nat) (hr : r < 10) : -1500 ≤ z_cl I r n ∧ z_cl I r n ≤ 1500 := z_le_b (h.fc r n hr) (h.lo n) (h.hi n)
/-- the sum of a clash: factors of a and b, leasts of the others -/
def z_ct (I : AwI) (r a b : Nat) : Nat → Int := fun n => if n = a ∨ n = b then 0 else z_cl I r n
def z_cs (I : AwI) (r a b : Nat) (x : Int) : Int := I (6 + r) a + I (6 + r) b + z_sm (z_ct I r a b) x
theorem z_M.ct {I J : AwI} (h : z_M I J) (r a b n : Nat) (hr : r < 10) : -1500 ≤ z_ct I r a b n ∧ z_ct I r a b n ≤ 1500 := by
  unfold z_ct
  split
  · omega
  · exact h.cl r n hr
/-- rows r in which a and b clash -/
def z_ci (I : AwI) (r a b : Nat) : Prop := I 16 r < z_cs I r a b (I 1 5)
def z_cn2 (I : AwI) (a b : Nat) : Prop := ∃ r : Nat, (r : Int) < I 1 6 ∧ z_ci I r a b
def z_pr (f : Nat → Int) : Nat → Int
  | 0 => 1
  | n + 1 => z_pr f n * f n
def z_pm (f : Nat → Int) (x : Int) : Int := z_pr f x.toNat
theorem z_pm_s (f : Nat → Int) {x : Int} (h : 0 ≤ x) : z_pm f (x + 1) = z_pm f x * f x.toNat := by
  unfold z_pm
  rw [show (x + 1).toNat = x.toNat + 1 by omega]
  rfl
/-- the strength of a cut, times the scale -/
def z_str (f : Nat → Int) (p : Nat → Int) (r x : Int) : Int := z_sm (fun n => f n * p n) x - r * 27720
def z_fl (I : AwI) (a n : Nat) (v : Int) : AwI := fun a' k' => if a' = a ∧ k' < n then v else I a' k'
theorem z_fl_s (I : AwI) (a : Nat) (v : Int) {x : Int} (h : 0 ≤ x) : z_up (z_fl I a x.toNat v) a x.toNat v = z_fl I a (x + 1).toNat v := by
  funext a' k'
  unfold z_up z_fl
  by_cases e : a' = a
  · subst e
    by_cases e2 : k' = x.toNat
    · subst e2
      rw [if_pos ⟨rfl, rfl⟩, if_pos ⟨rfl, by omega⟩]
    · rw [if_neg (fun q => e2 q.2)]
      by_cases e3 : k' < x.toNat
      · rw [if_pos ⟨rfl, e3⟩, if_pos ⟨rfl, by omega⟩]
      · rw [if_neg (fun q => e3 q.2), if_neg (fun q => e3 (by have := q.2; omega))]
  · rw [if_neg (fun q => e q.1), if_neg (fun q => e q.1), if_neg (fun q => e q.1)]
theorem z_fl_0 (I : AwI) (a : Nat) (v : Int) : z_fl I a 0 v = I := by
  funext a' k'
  unfold z_fl
  rw [if_neg (fun q => by have := q.2; omega)]
theorem z_fl_in (I : AwI) {a n k : Nat} (v : Int) (h : k < n) : z_fl I a n v a k = v := if_pos ⟨rfl, h⟩
theorem z_fl_a (I : AwI) {a a' n k : Nat} (v : Int) (h : a' ≠ a) : z_fl I a n v a' k = I a' k := if_neg (fun q => h q.1)

set_option maxHeartbeats 4000000 in
theorem c_X6_hasName {π : Nat → Nat} {I J : AwI} {x : Int} (h : z_M I J) (hx : -2147483648 ≤ x ∧ x ≤ 2147483647) : CT m_X6_hasName [zr 1, zi x] 255 I J (z_R π) (z_P (some (zi (z_bl (0 ≤ x ∧ x < I 1 5)))) 255 I J (z_R π)) := by
  refine CT.of (by decide) (Nat.le_of_ble_eq_true rfl) ?_
  show AW _ 0 0 _ 0 [some (zr 1), some (zi x)] [] _ _ _
  have hn := h.nm
  refine aw_iload_n (pc := 0) dX6_hasName_0 rfl ?_
  refine aw_if_lt (pc := 1) (tgt := 16) dX6_hasName_1 rfl (by first | omega | exact z_bl_r _) (fun h1 => ?_) (fun h1 => ?_)
  · refine aw_iconst (pc := 16) dX6_hasName_16 ?_
    exact aw_zreturn (pc := 17) dX6_hasName_17 rfl (by first | exact Or.inl rfl | exact Or.inr rfl | omega) ⟨Nat.zero_le _, Nat.zero_le _⟩ (⟨by first | exact z_r1 (by omega) | exact z_r0 (by omega), rfl, rfl, rfl, rfl⟩)
  · refine aw_iload_n (pc := 4) dX6_hasName_4 rfl ?_
    refine aw_aload_n (pc := 5) dX6_hasName_5 rfl ?_
    refine aw_getI (pc := 6) dX6_hasName_6 k_fl_X6_30 rfl (by omega) (by first | rfl | exact z_shr _ (by omega) | exact z_shc0 (by omega) | exact z_shc1 (by omega) | exact z_shc2 (by omega) | exact z_shc3 (by omega) | exact z_shc4 (by omega)) ?_
    refine aw_icmp_ge (pc := 9) (tgt := 16) dX6_hasName_9 rfl (by first | omega | exact z_bl_r _) (by first | omega | exact z_bl_r _) (fun h9 => ?_) (fun h9 => ?_)
    · refine aw_iconst (pc := 16) dX6_hasName_16 ?_
      exact aw_zreturn (pc := 17) dX6_hasName_17 rfl (by first | exact Or.inl rfl | exact Or.inr rfl | omega) ⟨Nat.zero_le _, Nat.zero_le _⟩ (⟨by first | exact z_r1 (by omega) | exact z_r0 (by omega), rfl, rfl, rfl, rfl⟩)
    · refine aw_iconst (pc := 12) dX6_hasName_12 ?_
      refine aw_goto (pc := 13) (tgt := 17) dX6_hasName_13 rfl ?_
      exact aw_zreturn (pc := 17) dX6_hasName_17 rfl (by first | exact Or.inl rfl | exact Or.inr rfl | omega) ⟨Nat.zero_le _, Nat.zero_le _⟩ (⟨by first | exact z_r1 (by omega) | exact z_r0 (by omega), rfl, rfl, rfl, rfl⟩)
set_option maxHeartbeats 4000000 in
theorem c_X6_hasRow {π : Nat → Nat} {I J : AwI} {x : Int} (h : z_M I J) (hx : -2147483648 ≤ x ∧ x ≤ 2147483647) : CT m_X6_hasRow [zr 1, zi x] 255 I J (z_R π) (z_P (some (zi (z_bl (0 ≤ x ∧ x < I 1 6)))) 255 I J (z_R π)) := by
  refine CT.of (by decide) (Nat.le_of_ble_eq_true rfl) ?_
  show AW _ 0 0 _ 0 [some (zr 1), some (zi x)] [] _ _ _
  have hn := h.rw
  refine aw_iload_n (pc := 0) dX6_hasRow_0 rfl ?_
  refine aw_if_lt (pc := 1) (tgt := 16) dX6_hasRow_1 rfl (by first | omega | exact z_bl_r _) (fun h1 => ?_) (fun h1 => ?_)
  · refine aw_iconst (pc := 16) dX6_hasRow_16 ?_
    exact aw_zreturn (pc := 17) dX6_hasRow_17 rfl (by first | exact Or.inl rfl | exact Or.inr rfl | omega) ⟨Nat.zero_le _, Nat.zero_le _⟩ (⟨by first | exact z_r1 (by omega) | exact z_r0 (by omega), rfl, rfl, rfl, rfl⟩)
  · refine aw_iload_n (pc := 4) dX6_hasRow_4 rfl ?_
    refine aw_aload_n (pc := 5) dX6_hasRow_5 rfl ?_
    refine aw_getI (pc := 6) dX6_hasRow_6 k_fl_X6_34 rfl (by omega) (by first | rfl | exact z_shr _ (by omega) | exact z_shc0 (by omega) | exact z_shc1 (by omega) | exact z_shc2 (by omega) | exact z_shc3 (by omega) | exact z_shc4 (by omega)) ?_
    refine aw_icmp_ge (pc := 9) (tgt := 16) dX6_hasRow_9 rfl (by first | omega | exact z_bl_r _) (by first | omega | exact z_bl_r _) (fun h9 => ?_) (fun h9 => ?_)
    · refine aw_iconst (pc := 16) dX6_hasRow_16 ?_
      exact aw_zreturn (pc := 17) dX6_hasRow_17 rfl (by first | exact Or.inl rfl | exact Or.inr rfl | omega) ⟨Nat.zero_le _, Nat.zero_le _⟩ (⟨by first | exact z_r1 (by omega) | exact z_r0 (by omega), rfl, rfl, rfl, rfl⟩)
    · refine aw_iconst (pc := 12) dX6_hasRow_12 ?_
      refine aw_goto (pc := 13) (tgt := 17) dX6_hasRow_13 rfl ?_
      exact aw_zreturn (pc := 17) dX6_hasRow_17 rfl (by first | exact Or.inl rfl | exact Or.inr rfl | omega) ⟨Nat.zero_le _, Nat.zero_le _⟩ (⟨by first | exact z_r1 (by omega) | exact z_r0 (by omega), rfl, rfl, rfl, rfl⟩)
set_option maxHeartbeats 4000000 in
theorem c_X6_isBinary {π : Nat → Nat} {I J : AwI} {x : Int} (h : z_M I J) (hx : 0 ≤ x ∧ x < 8) : CT m_X6_isBinary [zr 1, zi x] 255 I J (z_R π) (z_P (some (zi (z_bl (I 2 x.toNat = 0 ∧ I 3 x.toNat = 1)))) 255 I J (z_R π)) := by
  refine CT.of (by decide) (Nat.le_of_ble_eq_true rfl) ?_
  show AW _ 0 0 _ 0 [some (zr 1), some (zi x)] [] _ _ _
  have hl := h.lo x.toNat
  have hh := h.hi x.toNat
  refine aw_aload_n (pc := 0) dX6_isBinary_0 rfl ?_
  refine aw_getR (pc := 1) dX6_isBinary_1 k_fl_X6_9 rfl (by omega) (by first | rfl | exact z_shr _ (by omega) | exact z_shc0 (by omega) | exact z_shc1 (by omega) | exact z_shc2 (by omega) | exact z_shc3 (by omega) | exact z_shc4 (by omega)) (by first | rfl | exact z_Rc0 _ (by omega) | exact z_Rc1 _ (by omega) | exact z_Rc2 _ (by omega) | exact z_Rc3 _ (by omega)) ?_
  refine aw_iload_n (pc := 4) dX6_isBinary_4 rfl ?_
  refine aw_iaload (pc := 5) dX6_isBinary_5 (by omega) (Nat.le_refl _) (by first | rfl | exact z_shr _ (by omega) | exact z_shc0 (by omega) | exact z_shc1 (by omega) | exact z_shc2 (by omega) | exact z_shc3 (by omega) | exact z_shc4 (by omega)) (by first | omega | exact z_bl_r _) ?_
  refine aw_if_ne (pc := 6) (tgt := 23) dX6_isBinary_6 rfl (by first | omega | exact z_bl_r _) (fun h6 => ?_) (fun h6 => ?_)
  · refine aw_iconst (pc := 23) dX6_isBinary_23 ?_
    exact aw_zreturn (pc := 24) dX6_isBinary_24 rfl (by first | exact Or.inl rfl | exact Or.inr rfl | omega) ⟨Nat.zero_le _, Nat.zero_le _⟩ (⟨by first | exact z_r1 (by omega) | exact z_r0 (by omega), rfl, rfl, rfl, rfl⟩)
  · refine aw_aload_n (pc := 9) dX6_isBinary_9 rfl ?_
    refine aw_getR (pc := 10) dX6_isBinary_10 k_fl_X6_15 rfl (by omega) (by first | rfl | exact z_shr _ (by omega) | exact z_shc0 (by omega) | exact z_shc1 (by omega) | exact z_shc2 (by omega) | exact z_shc3 (by omega) | exact z_shc4 (by omega)) (by first | rfl | exact z_Rc0 _ (by omega) | exact z_Rc1 _ (by omega) | exact z_Rc2 _ (by omega) | exact z_Rc3 _ (by omega)) ?_
    refine aw_iload_n (pc := 13) dX6_isBinary_13 rfl ?_
    refine aw_iaload (pc := 14) dX6_isBinary_14 (by omega) (Nat.le_refl _) (by first | rfl | exact z_shr _ (by omega) | exact z_shc0 (by omega) | exact z_shc1 (by omega) | exact z_shc2 (by omega) | exact z_shc3 (by omega) | exact z_shc4 (by omega)) (by first | omega | exact z_bl_r _) ?_
    refine aw_iconst (pc := 15) dX6_isBinary_15 ?_
    refine aw_icmp_ne (pc := 16) (tgt := 23) dX6_isBinary_16 rfl (by first | omega | exact z_bl_r _) (by first | omega | exact z_bl_r _) (fun h16 => ?_) (fun h16 => ?_)
    · refine aw_iconst (pc := 23) dX6_isBinary_23 ?_
      exact aw_zreturn (pc := 24) dX6_isBinary_24 rfl (by first | exact Or.inl rfl | exact Or.inr rfl | omega) ⟨Nat.zero_le _, Nat.zero_le _⟩ (⟨by first | exact z_r1 (by omega) | exact z_r0 (by omega), rfl, rfl, rfl, rfl⟩)
    · refine aw_iconst (pc := 19) dX6_isBinary_19 ?_
      refine aw_goto (pc := 20) (tgt := 24) dX6_isBinary_20 rfl ?_
      exact aw_zreturn (pc := 24) dX6_isBinary_24 rfl (by first | exact Or.inl rfl | exact Or.inr rfl | omega) ⟨Nat.zero_le _, Nat.zero_le _⟩ (⟨by first | exact z_r1 (by omega) | exact z_r0 (by omega), rfl, rfl, rfl, rfl⟩)
set_option maxHeartbeats 4000000 in
theorem c_X6_least {π : Nat → Nat} {I J : AwI} {r n : Int} (h : z_M I J) (hr : 0 ≤ r ∧ r < 10) (hn : 0 ≤ n ∧ n < 8) : CT m_X6_least [zr 1, zi r, zi n] 255 I J (z_R π) (z_P (some (zi (z_cl I r.toNat n.toNat))) 255 I J (z_R π)) := by
  refine CT.of (by decide) (Nat.le_of_ble_eq_true rfl) ?_
  show AW _ 0 0 _ 0 [some (zr 1), some (zi r), some (zi n)] [] _ _ _
  have hf := h.fc r.toNat n.toNat (by omega)
  refine aw_aload_n (pc := 0) dX6_least_0 rfl ?_
  refine aw_getR (pc := 1) dX6_least_1 k_fl_X6_24 rfl (by omega) (by first | rfl | exact z_shr _ (by omega) | exact z_shc0 (by omega) | exact z_shc1 (by omega) | exact z_shc2 (by omega) | exact z_shc3 (by omega) | exact z_shc4 (by omega)) (by first | rfl | exact z_Rc0 _ (by omega) | exact z_Rc1 _ (by omega) | exact z_Rc2 _ (by omega) | exact z_Rc3 _ (by omega)) ?_
  refine aw_iload_n (pc := 4) dX6_least_4 rfl ?_
  refine aw_aaloadG (pc := 5) dX6_least_5 (by omega) (Nat.le_refl _) rfl (by omega) (by rfl) ?_
  refine aw_iload_n (pc := 6) dX6_least_6 rfl ?_
  refine aw_iaload (pc := 7) dX6_least_7 (by omega) (Nat.le_refl _) (by first | rfl | exact z_shr _ (by omega) | exact z_shc0 (by omega) | exact z_shc1 (by omega) | exact z_shc2 (by omega) | exact z_shc3 (by omega) | exact z_shc4 (by omega)) (by first | omega | exact z_bl_r _) ?_
  refine aw_aload_n (pc := 8) dX6_least_8 rfl ?_
  refine aw_getR (pc := 9) dX6_least_9 k_fl_X6_24 rfl (by omega) (by first | rfl | exact z_shr _ (by omega) | exact z_shc0 (by omega) | exact z_shc1 (by omega) | exact z_shc2 (by omega) | exact z_shc3 (by omega) | exact z_shc4 (by omega)) (by first | rfl | exact z_Rc0 _ (by omega) | exact z_Rc1 _ (by omega) | exact z_Rc2 _ (by omega) | exact z_Rc3 _ (by omega)) ?_
  refine aw_iload_n (pc := 12) dX6_least_12 rfl ?_
  refine aw_aaloadG (pc := 13) dX6_least_13 (by omega) (Nat.le_refl _) rfl (by omega) (by rfl) ?_
  refine aw_iload_n (pc := 14) dX6_least_14 rfl ?_
  refine aw_iaload (pc := 15) dX6_least_15 (by omega) (Nat.le_refl _) (by first | rfl | exact z_shr _ (by omega) | exact z_shc0 (by omega) | exact z_shc1 (by omega) | exact z_shc2 (by omega) | exact z_shc3 (by omega) | exact z_shc4 (by omega)) (by first | omega | exact z_bl_r _) ?_
  refine aw_if_ge (pc := 16) (tgt := 28) dX6_least_16 rfl (by first | omega | exact z_bl_r _) (fun h16 => ?_) (fun h16 => ?_)
  · refine aw_aload_n (pc := 28) dX6_least_28 rfl ?_
    refine aw_getR (pc := 29) dX6_least_29 k_fl_X6_9 rfl (by omega) (by first | rfl | exact z_shr _ (by omega) | exact z_shc0 (by omega) | exact z_shc1 (by omega) | exact z_shc2 (by omega) | exact z_shc3 (by omega) | exact z_shc4 (by omega)) (by first | rfl | exact z_Rc0 _ (by omega) | exact z_Rc1 _ (by omega) | exact z_Rc2 _ (by omega) | exact z_Rc3 _ (by omega)) ?_
    refine aw_iload_n (pc := 32) dX6_least_32 rfl ?_
    refine aw_iaload (pc := 33) dX6_least_33 (by omega) (Nat.le_refl _) (by first | rfl | exact z_shr _ (by omega) | exact z_shc0 (by omega) | exact z_shc1 (by omega) | exact z_shc2 (by omega) | exact z_shc3 (by omega) | exact z_shc4 (by omega)) (by first | omega | exact z_bl_r _) ?_
    refine aw_imul (pc := 34) dX6_least_34 ?_
    exact aw_ireturn (pc := 35) dX6_least_35 rfl ⟨Nat.zero_le _, Nat.zero_le _⟩ (⟨by unfold z_cl z_le; first | rw [if_pos (by omega)] | rw [if_neg (by omega)], rfl, rfl, rfl, rfl⟩)
  · refine aw_aload_n (pc := 19) dX6_least_19 rfl ?_
    refine aw_getR (pc := 20) dX6_least_20 k_fl_X6_15 rfl (by omega) (by first | rfl | exact z_shr _ (by omega) | exact z_shc0 (by omega) | exact z_shc1 (by omega) | exact z_shc2 (by omega) | exact z_shc3 (by omega) | exact z_shc4 (by omega)) (by first | rfl | exact z_Rc0 _ (by omega) | exact z_Rc1 _ (by omega) | exact z_Rc2 _ (by omega) | exact z_Rc3 _ (by omega)) ?_
    refine aw_iload_n (pc := 23) dX6_least_23 rfl ?_
    refine aw_iaload (pc := 24) dX6_least_24 (by omega) (Nat.le_refl _) (by first | rfl | exact z_shr _ (by omega) | exact z_shc0 (by omega) | exact z_shc1 (by omega) | exact z_shc2 (by omega) | exact z_shc3 (by omega) | exact z_shc4 (by omega)) (by first | omega | exact z_bl_r _) ?_
    refine aw_goto (pc := 25) (tgt := 34) dX6_least_25 rfl ?_
    refine aw_imul (pc := 34) dX6_least_34 ?_
    exact aw_ireturn (pc := 35) dX6_least_35 rfl ⟨Nat.zero_le _, Nat.zero_le _⟩ (⟨by unfold z_cl z_le; first | rw [if_pos (by omega)] | rw [if_neg (by omega)], rfl, rfl, rfl, rfl⟩)
set_option maxHeartbeats 4000000 in
theorem c_X6_clashIn {π : Nat → Nat} {I J : AwI} {r a b : Int} (h : z_M I J) (hr : 0 ≤ r ∧ r < 10) (ha : 0 ≤ a ∧ a < 8) (hb : 0 ≤ b ∧ b < 8) : CT m_X6_clashIn [zr 1, zi r, zi a, zi b] 255 I J (z_R π) (z_P (some (zi (z_bl (z_ci I r.toNat a.toNat b.toNat)))) 255 I J (z_R π)) := by
  refine CT.of (by decide) (Nat.le_of_ble_eq_true rfl) ?_
  show AW _ 0 0 _ 0 [some (zr 1), some (zi r), some (zi a), some (zi b), none, none] [] _ _ _
  have hnm := h.nm
  have loop : ∀ (k : Nat) (x : Int), 0 ≤ x → x + k = I 1 5 → AW (FM m_X6_clashIn (z_P (some (zi (z_bl (z_ci I r.toNat a.toNat b.toNat)))) 255 I J (z_R π))) 0 0 255 22 [some (zr 1), some (zi r), some (zi a), some (zi b), some (zi (z_cs I r.toNat a.toNat b.toNat x)), some (zi x)] [] I J (z_R π) := by
    intro k
    induction k with
    | zero =>
      intro x hx he
      have he : x = I 1 5 := by omega
      refine aw_iload (pc := 22) dX6_clashIn_22 rfl ?_
      refine aw_aload_n (pc := 24) dX6_clashIn_24 rfl ?_
      refine aw_getI (pc := 25) dX6_clashIn_25 k_fl_X6_30 rfl (by omega) (by first | rfl | exact z_shr _ (by omega) | exact z_shc0 (by omega) | exact z_shc1 (by omega) | exact z_shc2 (by omega) | exact z_shc3 (by omega) | exact z_shc4 (by omega)) ?_
      refine aw_icmp_ge (pc := 28) (tgt := 61) dX6_clashIn_28 rfl (by first | omega | exact z_bl_r _) (by first | omega | exact z_bl_r _) (fun h28 => ?_) (fun h28 => absurd h28 (by omega))
      refine aw_iload (pc := 61) dX6_clashIn_61 rfl ?_
      have hc1 := h.fc r.toNat a.toNat (by omega)
      have hc2 := h.fc r.toNat b.toNat (by omega)
      have hc3 := z_sm_b (f := z_ct I r.toNat a.toNat b.toNat) 1500 x 8 (by omega) (by omega) (fun k => h.ct _ _ _ k (by omega))
      have hc4 := h.rt r.toNat
      have hc5 : z_cs I r.toNat a.toNat b.toNat x = I (6 + r.toNat) a.toNat + I (6 + r.toNat) b.toNat + z_sm (z_ct I r.toNat a.toNat b.toNat) x := rfl
      refine aw_aload_n (pc := 63) dX6_clashIn_63 rfl ?_
      refine aw_getR (pc := 64) dX6_clashIn_64 k_fl_X6_27 rfl (by omega) (by first | rfl | exact z_shr _ (by omega) | exact z_shc0 (by omega) | exact z_shc1 (by omega) | exact z_shc2 (by omega) | exact z_shc3 (by omega) | exact z_shc4 (by omega)) (by first | rfl | exact z_Rc0 _ (by omega) | exact z_Rc1 _ (by omega) | exact z_Rc2 _ (by omega) | exact z_Rc3 _ (by omega)) ?_
      refine aw_iload_n (pc := 67) dX6_clashIn_67 rfl ?_
      refine aw_iaload (pc := 68) dX6_clashIn_68 (by omega) (Nat.le_refl _) (by first | rfl | exact z_shr _ (by omega) | exact z_shc0 (by omega) | exact z_shc1 (by omega) | exact z_shc2 (by omega) | exact z_shc3 (by omega) | exact z_shc4 (by omega)) (by first | omega | exact z_bl_r _) ?_
      refine aw_icmp_le (pc := 69) (tgt := 76) dX6_clashIn_69 rfl (by omega) (by omega) (fun h69 => ?_) (fun h69 => ?_)
      · refine aw_iconst (pc := 76) dX6_clashIn_76 ?_
        exact aw_zreturn (pc := 77) dX6_clashIn_77 rfl (by first | exact Or.inl rfl | exact Or.inr rfl | omega) ⟨Nat.zero_le _, Nat.zero_le _⟩ (⟨by first | exact z_r1 (show z_ci I r.toNat a.toNat b.toNat from by unfold z_ci; rw [← he]; omega) | exact z_r0 (show ¬ z_ci I r.toNat a.toNat b.toNat from by unfold z_ci; rw [← he]; omega), rfl, rfl, rfl, rfl⟩)
      · refine aw_iconst (pc := 72) dX6_clashIn_72 ?_
        refine aw_goto (pc := 73) (tgt := 77) dX6_clashIn_73 rfl ?_
        exact aw_zreturn (pc := 77) dX6_clashIn_77 rfl (by first | exact Or.inl rfl | exact Or.inr rfl | omega) ⟨Nat.zero_le _, Nat.zero_le _⟩ (⟨by first | exact z_r1 (show z_ci I r.toNat a.toNat b.toNat from by unfold z_ci; rw [← he]; omega) | exact z_r0 (show ¬ z_ci I r.toNat a.toNat b.toNat from by unfold z_ci; rw [← he]; omega), rfl, rfl, rfl, rfl⟩)
    | succ k ih =>
      intro x hx he
      refine aw_iload (pc := 22) dX6_clashIn_22 rfl ?_
      refine aw_aload_n (pc := 24) dX6_clashIn_24 rfl ?_
      refine aw_getI (pc := 25) dX6_clashIn_25 k_fl_X6_30 rfl (by omega) (by first | rfl | exact z_shr _ (by omega) | exact z_shc0 (by omega) | exact z_shc1 (by omega) | exact z_shc2 (by omega) | exact z_shc3 (by omega) | exact z_shc4 (by omega)) ?_
      refine aw_icmp_ge (pc := 28) (tgt := 61) dX6_clashIn_28 rfl (by first | omega | exact z_bl_r _) (by first | omega | exact z_bl_r _) (fun h28 => absurd h28 (by omega)) (fun h28 => ?_)
      refine aw_iload (pc := 31) dX6_clashIn_31 rfl ?_
      refine aw_iload_n (pc := 33) dX6_clashIn_33 rfl ?_
      refine aw_icmp_eq (pc := 34) (tgt := 55) dX6_clashIn_34 rfl (by first | omega | exact z_bl_r _) (by first | omega | exact z_bl_r _) (fun h34 => ?_) (fun h34 => ?_)
      · have e1 : z_cs I r.toNat a.toNat b.toNat (x + 1) = z_cs I r.toNat a.toNat b.toNat x := by unfold z_cs; rw [z_sm_s _ hx]; unfold z_ct; rw [if_pos (by omega)]; omega
        rw [← e1]
        refine aw_iinc (pc := 55) (lv' := [_, _, _, _, _, _]) dX6_clashIn_55 (Nat.le_of_ble_eq_true rfl) rfl rfl ?_
        refine aw_goto (pc := 58) (tgt := 22) dX6_clashIn_58 rfl ?_
        exact ih (x + 1) (by omega) (by omega)
      · refine aw_iload (pc := 37) dX6_clashIn_37 rfl ?_
        refine aw_iload_n (pc := 39) dX6_clashIn_39 rfl ?_
        refine aw_icmp_eq (pc := 40) (tgt := 55) dX6_clashIn_40 rfl (by first | omega | exact z_bl_r _) (by first | omega | exact z_bl_r _) (fun h40 => ?_) (fun h40 => ?_)
        · have e1 : z_cs I r.toNat a.toNat b.toNat (x + 1) = z_cs I r.toNat a.toNat b.toNat x := by unfold z_cs; rw [z_sm_s _ hx]; unfold z_ct; rw [if_pos (by omega)]; omega
          rw [← e1]
          refine aw_iinc (pc := 55) (lv' := [_, _, _, _, _, _]) dX6_clashIn_55 (Nat.le_of_ble_eq_true rfl) rfl rfl ?_
          refine aw_goto (pc := 58) (tgt := 22) dX6_clashIn_58 rfl ?_
          exact ih (x + 1) (by omega) (by omega)
        · refine aw_iload (pc := 43) dX6_clashIn_43 rfl ?_
          refine aw_aload_n (pc := 45) dX6_clashIn_45 rfl ?_
          refine aw_iload_n (pc := 46) dX6_clashIn_46 rfl ?_
          refine aw_iload (pc := 47) dX6_clashIn_47 rfl ?_
          refine aw_qV (pc := 49) (d := m_X6_least) (c_X6_least h hr (by omega)) k_X6_least dX6_clashIn_49 k_ml_X6_47 rfl ⟨rfl, rfl⟩ (by omega) (by first | rfl | exact z_shr _ (by omega) | exact z_shc0 (by omega) | exact z_shc1 (by omega) | exact z_shc2 (by omega) | exact z_shc3 (by omega) | exact z_shc4 (by omega)) rfl ⟨Nat.le_of_ble_eq_true rfl, Nat.le_of_ble_eq_true rfl⟩ ⟨Nat.zero_le _, Nat.zero_le _⟩ rfl (Nat.le_of_ble_eq_true rfl) (z_Pk ?_)
          refine aw_iadd (pc := 52) dX6_clashIn_52 ?_
          refine aw_istore (pc := 53) (lv' := [_, _, _, _, _, _]) dX6_clashIn_53 (Nat.le_of_ble_eq_true rfl) rfl ?_
          have e1 : z_cs I r.toNat a.toNat b.toNat (x + 1) = z_cs I r.toNat a.toNat b.toNat x + z_cl I r.toNat x.toNat := by unfold z_cs; rw [z_sm_s _ hx, ← Int.add_assoc]; congr 1; unfold z_ct; rw [if_neg (by omega)]
          rw [← e1]
          refine aw_iinc (pc := 55) (lv' := [_, _, _, _, _, _]) dX6_clashIn_55 (Nat.le_of_ble_eq_true rfl) rfl rfl ?_
          refine aw_goto (pc := 58) (tgt := 22) dX6_clashIn_58 rfl ?_
          exact ih (x + 1) (by omega) (by omega)
  refine aw_aload_n (pc := 0) dX6_clashIn_0 rfl ?_
  refine aw_getR (pc := 1) dX6_clashIn_1 k_fl_X6_24 rfl (by omega) (by first | rfl | exact z_shr _ (by omega) | exact z_shc0 (by omega) | exact z_shc1 (by omega) | exact z_shc2 (by omega) | exact z_shc3 (by omega) | exact z_shc4 (by omega)) (by first | rfl | exact z_Rc0 _ (by omega) | exact z_Rc1 _ (by omega) | exact z_Rc2 _ (by omega) | exact z_Rc3 _ (by omega)) ?_
  refine aw_iload_n (pc := 4) dX6_clashIn_4 rfl ?_
  refine aw_aaloadG (pc := 5) dX6_clashIn_5 (by omega) (Nat.le_refl _) rfl (by omega) (by rfl) ?_
  refine aw_iload_n (pc := 6) dX6_clashIn_6 rfl ?_
  refine aw_iaload (pc := 7) dX6_clashIn_7 (by omega) (Nat.le_refl _) (by first | rfl | exact z_shr _ (by omega) | exact z_shc0 (by omega) | exact z_shc1 (by omega) | exact z_shc2 (by omega) | exact z_shc3 (by omega) | exact z_shc4 (by omega)) (by first | omega | exact z_bl_r _) ?_
  refine aw_aload_n (pc := 8) dX6_clashIn_8 rfl ?_
  refine aw_getR (pc := 9) dX6_clashIn_9 k_fl_X6_24 rfl (by omega) (by first | rfl | exact z_shr _ (by omega) | exact z_shc0 (by omega) | exact z_shc1 (by omega) | exact z_shc2 (by omega) | exact z_shc3 (by omega) | exact z_shc4 (by omega)) (by first | rfl | exact z_Rc0 _ (by omega) | exact z_Rc1 _ (by omega) | exact z_Rc2 _ (by omega) | exact z_Rc3 _ (by omega)) ?_
  refine aw_iload_n (pc := 12) dX6_clashIn_12 rfl ?_
  refine aw_aaloadG (pc := 13) dX6_clashIn_13 (by omega) (Nat.le_refl _) rfl (by omega) (by rfl) ?_
  refine aw_iload_n (pc := 14) dX6_clashIn_14 rfl ?_
  refine aw_iaload (pc := 15) dX6_clashIn_15 (by omega) (Nat.le_refl _) (by first | rfl | exact z_shr _ (by omega) | exact z_shc0 (by omega) | exact z_shc1 (by omega) | exact z_shc2 (by omega) | exact z_shc3 (by omega) | exact z_shc4 (by omega)) (by first | omega | exact z_bl_r _) ?_
  refine aw_iadd (pc := 16) dX6_clashIn_16 ?_
  refine aw_istore (pc := 17) (lv' := [_, _, _, _, _, _]) dX6_clashIn_17 (Nat.le_of_ble_eq_true rfl) rfl ?_
  refine aw_iconst (pc := 19) dX6_clashIn_19 ?_
  refine aw_istore (pc := 20) (lv' := [_, _, _, _, _, _]) dX6_clashIn_20 (Nat.le_of_ble_eq_true rfl) rfl ?_
  have e0 : I (6 + r.toNat) a.toNat + I (6 + r.toNat) b.toNat = z_cs I r.toNat a.toNat b.toNat 0 := by unfold z_cs; rw [z_sm_0]; omega
  rw [e0]
  exact loop (I 1 5).toNat 0 (by omega) (by omega)
end
section
def z_C (I : AwI) (c : Nat) : Prop := (∀ n, -1000 ≤ I (19 + 5 * c + 1) n ∧ I (19 + 5 * c + 1) n ≤ 1000) ∧ (∀ n, -1000 ≤ I (19 + 5 * c + 2) n ∧ I (19 + 5 * c + 2) n ≤ 1000) ∧ (∀ n, -1000 ≤ I (19 + 5 * c + 3) n ∧ I (19 + 5 * c + 3) n ≤ 1000) ∧ (∀ n, -1000 ≤ I (19 + 5 * c + 4) n ∧ I (19 + 5 * c + 4) n ≤ 1000) ∧ (-200000 ≤ I (19 + 5 * c) 4 ∧ I (19 + 5 * c) 4 ≤ 200000) ∧ (0 ≤ I (19 + 5 * c) 5 ∧ I (19 + 5 * c) 5 ≤ 3) ∧ (0 ≤ I (19 + 5 * c) 6 ∧ I (19 + 5 * c) 6 ≤ 3) ∧ (-1000 ≤ I (19 + 5 * c) 7 ∧ I (19 + 5 * c) 7 ≤ 1000) ∧ (-1000 ≤ I (19 + 5 * c) 8 ∧ I (19 + 5 * c) 8 ≤ 1000)
theorem z_C.f {I : AwI} {c : Nat} (h : z_C I c) (n : Nat) : -1000 ≤ I (19 + 5 * c + 1) n ∧ I (19 + 5 * c + 1) n ≤ 1000 := h.1 n
theorem z_C.rt {I : AwI} {c : Nat} (h : z_C I c) (n : Nat) : -1000 ≤ I (19 + 5 * c + 2) n ∧ I (19 + 5 * c + 2) n ≤ 1000 := h.2.1 n
theorem z_C.lt {I : AwI} {c : Nat} (h : z_C I c) (n : Nat) : -1000 ≤ I (19 + 5 * c + 3) n ∧ I (19 + 5 * c + 3) n ≤ 1000 := h.2.2.1 n
theorem z_C.ht {I : AwI} {c : Nat} (h : z_C I c) (n : Nat) : -1000 ≤ I (19 + 5 * c + 4) n ∧ I (19 + 5 * c + 4) n ≤ 1000 := h.2.2.2.1 n
theorem z_C.r {I : AwI} {c : Nat} (h : z_C I c) : -200000 ≤ I (19 + 5 * c) 4 ∧ I (19 + 5 * c) 4 ≤ 200000 := h.2.2.2.2.1
theorem z_C.kd {I : AwI} {c : Nat} (h : z_C I c) : 0 ≤ I (19 + 5 * c) 5 ∧ I (19 + 5 * c) 5 ≤ 3 := h.2.2.2.2.2.1
theorem z_C.ag {I : AwI} {c : Nat} (h : z_C I c) : 0 ≤ I (19 + 5 * c) 6 ∧ I (19 + 5 * c) 6 ≤ 3 := h.2.2.2.2.2.2.1
theorem z_C.dv {I : AwI} {c : Nat} (h : z_C I c) : -1000 ≤ I (19 + 5 * c) 7 ∧ I (19 + 5 * c) 7 ≤ 1000 := h.2.2.2.2.2.2.2.1
theorem z_C.cr {I : AwI} {c : Nat} (h : z_C I c) : -1000 ≤ I (19 + 5 * c) 8 ∧ I (19 + 5 * c) 8 ≤ 1000 := h.2.2.2.2.2.2.2.2
/-- the strength of the cut in cell c, times the scale -/
def z_cst (I J : AwI) (c : Nat) : Int := z_sm (fun n => I (19 + 5 * c + 1) n * J 4 n) (I 1 5) - I (19 + 5 * c) 4 * 27720
theorem z_cst_b {I J : AwI} {c : Nat} (h : z_M I J) (hc : z_C I c) : -100000000000 ≤ z_cst I J c ∧ z_cst I J c ≤ 100000000000 := by
  have h1 := z_sm_b (f := fun n => I (19 + 5 * c + 1) n * J 4 n) (1000 * 11088000) (I 1 5) 8 (by have := h.nm; omega) (by omega) (fun k => z_mulb (hc.f k) (h.pt k))
  have h2 := hc.r
  unfold z_cst
  omega
set_option maxHeartbeats 4000000 in
theorem c_X6_clashAnywhere {π : Nat → Nat} {I J : AwI} {a b : Int} (h : z_M I J) (ha : 0 ≤ a ∧ a < 8) (hb : 0 ≤ b ∧ b < 8) : CT m_X6_clashAnywhere [zr 1, zi a, zi b] 255 I J (z_R π) (z_P (some (zi (z_bl (z_cn2 I a.toNat b.toNat)))) 255 I J (z_R π)) := by
  refine CT.of (by decide) (Nat.le_of_ble_eq_true rfl) ?_
  show AW _ 0 0 _ 0 [some (zr 1), some (zi a), some (zi b), none] [] _ _ _
  have hrw := h.rw
  have loop : ∀ (k : Nat) (x : Int), 0 ≤ x → x + k = I 1 6 → (∀ r : Nat, (r : Int) < x → ¬ z_ci I r a.toNat b.toNat) → AW (FM m_X6_clashAnywhere (z_P (some (zi (z_bl (z_cn2 I a.toNat b.toNat)))) 255 I J (z_R π))) 0 0 255 2 [some (zr 1), some (zi a), some (zi b), some (zi x)] [] I J (z_R π) := by
    intro k
    induction k with
    | zero =>
      intro x hx he hi
      refine aw_iload_n (pc := 2) dX6_clashAnywhere_2 rfl ?_
      refine aw_aload_n (pc := 3) dX6_clashAnywhere_3 rfl ?_
      refine aw_getI (pc := 4) dX6_clashAnywhere_4 k_fl_X6_34 rfl (by omega) (by first | rfl | exact z_shr _ (by omega) | exact z_shc0 (by omega) | exact z_shc1 (by omega) | exact z_shc2 (by omega) | exact z_shc3 (by omega) | exact z_shc4 (by omega)) ?_
      refine aw_icmp_ge (pc := 7) (tgt := 28) dX6_clashAnywhere_7 rfl (by first | omega | exact z_bl_r _) (by first | omega | exact z_bl_r _) (fun h7 => ?_) (fun h7 => absurd h7 (by omega))
      refine aw_iconst (pc := 28) dX6_clashAnywhere_28 ?_
      exact aw_zreturn (pc := 29) dX6_clashAnywhere_29 rfl (by first | exact Or.inl rfl | exact Or.inr rfl | omega) ⟨Nat.zero_le _, Nat.zero_le _⟩ (⟨z_r0 (fun q => by obtain ⟨r, h1, h2⟩ := q; exact hi r (by omega) h2), rfl, rfl, rfl, rfl⟩)
    | succ k ih =>
      intro x hx he hi
      refine aw_iload_n (pc := 2) dX6_clashAnywhere_2 rfl ?_
      refine aw_aload_n (pc := 3) dX6_clashAnywhere_3 rfl ?_
      refine aw_getI (pc := 4) dX6_clashAnywhere_4 k_fl_X6_34 rfl (by omega) (by first | rfl | exact z_shr _ (by omega) | exact z_shc0 (by omega) | exact z_shc1 (by omega) | exact z_shc2 (by omega) | exact z_shc3 (by omega) | exact z_shc4 (by omega)) ?_
      refine aw_icmp_ge (pc := 7) (tgt := 28) dX6_clashAnywhere_7 rfl (by first | omega | exact z_bl_r _) (by first | omega | exact z_bl_r _) (fun h7 => absurd h7 (by omega)) (fun h7 => ?_)
      refine aw_aload_n (pc := 10) dX6_clashAnywhere_10 rfl ?_
      refine aw_iload_n (pc := 11) dX6_clashAnywhere_11 rfl ?_
      refine aw_iload_n (pc := 12) dX6_clashAnywhere_12 rfl ?_
      refine aw_iload_n (pc := 13) dX6_clashAnywhere_13 rfl ?_
      refine aw_qV (pc := 14) (d := m_X6_clashIn) (c_X6_clashIn h (by omega) ha hb) k_X6_clashIn dX6_clashAnywhere_14 k_ml_X6_43 rfl ⟨rfl, rfl⟩ (by omega) (by first | rfl | exact z_shr _ (by omega) | exact z_shc0 (by omega) | exact z_shc1 (by omega) | exact z_shc2 (by omega) | exact z_shc3 (by omega) | exact z_shc4 (by omega)) rfl ⟨Nat.le_of_ble_eq_true rfl, Nat.le_of_ble_eq_true rfl⟩ ⟨Nat.zero_le _, Nat.zero_le _⟩ rfl (Nat.le_of_ble_eq_true rfl) (z_Pk ?_)
      refine aw_if_eq (pc := 17) (tgt := 22) dX6_clashAnywhere_17 rfl (by first | omega | exact z_bl_r _) (fun h17 => ?_) (fun h17 => ?_)
      · refine aw_iinc (pc := 22) (lv' := [_, _, _, _]) dX6_clashAnywhere_22 (Nat.le_of_ble_eq_true rfl) rfl rfl ?_
        refine aw_goto (pc := 25) (tgt := 2) dX6_clashAnywhere_25 rfl ?_
        exact ih (x + 1) (by omega) (by omega) (fun r h1 => by
          by_cases e : (r : Int) < x
          · exact hi r e
          · rw [show r = x.toNat by omega]
            exact z_bl_0.mp h17)
      · refine aw_iconst (pc := 20) dX6_clashAnywhere_20 ?_
        exact aw_zreturn (pc := 21) dX6_clashAnywhere_21 rfl (by first | exact Or.inl rfl | exact Or.inr rfl | omega) ⟨Nat.zero_le _, Nat.zero_le _⟩ (⟨z_r1 ⟨x.toNat, by omega, z_bl_n.mp h17⟩, rfl, rfl, rfl, rfl⟩)
  refine aw_iconst (pc := 0) dX6_clashAnywhere_0 ?_
  refine aw_istore_n (pc := 1) (lv' := [_, _, _, _]) dX6_clashAnywhere_1 (Nat.le_of_ble_eq_true rfl) rfl ?_
  exact loop (I 1 6).toNat 0 (by omega) (by omega) (fun r h => by omega)
set_option maxHeartbeats 4000000 in
theorem c_X6_choices {π : Nat → Nat} {I J : AwI} (h : z_M I J) : CT m_X6_choices [zr 1] 255 I J (z_R π) (z_P (some (zl (z_pm (fun n => I 3 n - I 2 n + 1) (I 1 5)))) 255 I J (z_R π)) := by
  refine CT.of (by decide) (Nat.le_of_ble_eq_true rfl) ?_
  show AW _ 0 0 _ 0 [some (zr 1), none, none, none] [] _ _ _
  have hnm := h.nm
  have loop : ∀ (k : Nat) (x : Int), 0 ≤ x → x + k = I 1 5 → AW (FM m_X6_choices (z_P (some (zl (z_pm (fun n => I 3 n - I 2 n + 1) (I 1 5)))) 255 I J (z_R π))) 0 0 255 4 [some (zr 1), some (zl (z_pm (fun n => I 3 n - I 2 n + 1) x)), none, some (zi x)] [] I J (z_R π) := by
    intro k
    induction k with
    | zero =>
      intro x hx he
      have he : x = I 1 5 := by omega
      refine aw_iload_n (pc := 4) dX6_choices_4 rfl ?_
      refine aw_aload_n (pc := 5) dX6_choices_5 rfl ?_
      refine aw_getI (pc := 6) dX6_choices_6 k_fl_X6_30 rfl (by omega) (by first | rfl | exact z_shr _ (by omega) | exact z_shc0 (by omega) | exact z_shc1 (by omega) | exact z_shc2 (by omega) | exact z_shc3 (by omega) | exact z_shc4 (by omega)) ?_
      refine aw_icmp_ge (pc := 9) (tgt := 37) dX6_choices_9 rfl (by first | omega | exact z_bl_r _) (by first | omega | exact z_bl_r _) (fun h9 => ?_) (fun h9 => absurd h9 (by omega))
      refine aw_lload_n (pc := 37) dX6_choices_37 rfl ?_
      exact aw_lreturn (pc := 38) dX6_choices_38 rfl ⟨Nat.zero_le _, Nat.zero_le _⟩ (⟨by rw [he], rfl, rfl, rfl, rfl⟩)
    | succ k ih =>
      intro x hx he
      refine aw_iload_n (pc := 4) dX6_choices_4 rfl ?_
      refine aw_aload_n (pc := 5) dX6_choices_5 rfl ?_
      refine aw_getI (pc := 6) dX6_choices_6 k_fl_X6_30 rfl (by omega) (by first | rfl | exact z_shr _ (by omega) | exact z_shc0 (by omega) | exact z_shc1 (by omega) | exact z_shc2 (by omega) | exact z_shc3 (by omega) | exact z_shc4 (by omega)) ?_
      refine aw_icmp_ge (pc := 9) (tgt := 37) dX6_choices_9 rfl (by first | omega | exact z_bl_r _) (by first | omega | exact z_bl_r _) (fun h9 => absurd h9 (by omega)) (fun h9 => ?_)
      have h1 := h.lo x.toNat
      have h2 := h.hi x.toNat
      refine aw_lload_n (pc := 12) dX6_choices_12 rfl ?_
      refine aw_aload_n (pc := 13) dX6_choices_13 rfl ?_
      refine aw_getR (pc := 14) dX6_choices_14 k_fl_X6_15 rfl (by omega) (by first | rfl | exact z_shr _ (by omega) | exact z_shc0 (by omega) | exact z_shc1 (by omega) | exact z_shc2 (by omega) | exact z_shc3 (by omega) | exact z_shc4 (by omega)) (by first | rfl | exact z_Rc0 _ (by omega) | exact z_Rc1 _ (by omega) | exact z_Rc2 _ (by omega) | exact z_Rc3 _ (by omega)) ?_
      refine aw_iload_n (pc := 17) dX6_choices_17 rfl ?_
      refine aw_iaload (pc := 18) dX6_choices_18 (by omega) (Nat.le_refl _) (by first | rfl | exact z_shr _ (by omega) | exact z_shc0 (by omega) | exact z_shc1 (by omega) | exact z_shc2 (by omega) | exact z_shc3 (by omega) | exact z_shc4 (by omega)) (by first | omega | exact z_bl_r _) ?_
      refine aw_aload_n (pc := 19) dX6_choices_19 rfl ?_
      refine aw_getR (pc := 20) dX6_choices_20 k_fl_X6_9 rfl (by omega) (by first | rfl | exact z_shr _ (by omega) | exact z_shc0 (by omega) | exact z_shc1 (by omega) | exact z_shc2 (by omega) | exact z_shc3 (by omega) | exact z_shc4 (by omega)) (by first | rfl | exact z_Rc0 _ (by omega) | exact z_Rc1 _ (by omega) | exact z_Rc2 _ (by omega) | exact z_Rc3 _ (by omega)) ?_
      refine aw_iload_n (pc := 23) dX6_choices_23 rfl ?_
      refine aw_iaload (pc := 24) dX6_choices_24 (by omega) (Nat.le_refl _) (by first | rfl | exact z_shr _ (by omega) | exact z_shc0 (by omega) | exact z_shc1 (by omega) | exact z_shc2 (by omega) | exact z_shc3 (by omega) | exact z_shc4 (by omega)) (by first | omega | exact z_bl_r _) ?_
      refine aw_isub (pc := 25) dX6_choices_25 ?_
      refine aw_iconst (pc := 26) dX6_choices_26 ?_
      refine aw_iadd (pc := 27) dX6_choices_27 ?_
      refine aw_i2l (pc := 28) dX6_choices_28 (by first | omega | exact z_bl_r _) ?_
      refine aw_lmul (pc := 29) dX6_choices_29 ?_
      refine aw_lstore_n (pc := 30) (lv' := [_, _, _, _]) dX6_choices_30 (Nat.le_of_ble_eq_true rfl) rfl ?_
      refine aw_iinc (pc := 31) (lv' := [_, _, _, _]) dX6_choices_31 (Nat.le_of_ble_eq_true rfl) rfl rfl ?_
      refine aw_goto (pc := 34) (tgt := 4) dX6_choices_34 rfl ?_
      rw [← z_pm_s (fun n => I 3 n - I 2 n + 1) hx]
      exact ih (x + 1) (by omega) (by omega)
  refine aw_lconst (pc := 0) (v := 1) dX6_choices_0 rfl ?_
  refine aw_lstore_n (pc := 1) (lv' := [_, _, _, _]) dX6_choices_1 (Nat.le_of_ble_eq_true rfl) rfl ?_
  refine aw_iconst (pc := 2) dX6_choices_2 ?_
  refine aw_istore_n (pc := 3) (lv' := [_, _, _, _]) dX6_choices_3 (Nat.le_of_ble_eq_true rfl) rfl ?_
  exact loop (I 1 5).toNat 0 (by omega) (by omega)
set_option maxHeartbeats 4000000 in
theorem c_X6_scaledStrength {π : Nat → Nat} {I J : AwI} {c : Nat} (h : z_M I J) (hk : c < 41) (hc : z_C I c) : CT m_X6_scaledStrength [zr 1, zr (19 + 5 * c)] 255 I J (z_R π) (z_P (some (zl (z_cst I J c))) 255 I J (z_R π)) := by
  refine CT.of (by decide) (Nat.le_of_ble_eq_true rfl) ?_
  show AW _ 0 0 _ 0 [some (zr 1), some (zr (19 + 5 * c)), none, none, none] [] _ _ _
  have hnm := h.nm
  have loop : ∀ (k : Nat) (x : Int), 0 ≤ x → x + k = I 1 5 → AW (FM m_X6_scaledStrength (z_P (some (zl (z_cst I J c))) 255 I J (z_R π))) 0 0 255 5 [some (zr 1), some (zr (19 + 5 * c)), some (zl (z_sm (fun n => I (19 + 5 * c + 1) n * J 4 n) x)), none, some (zi x)] [] I J (z_R π) := by
    intro k
    induction k with
    | zero =>
      intro x hx he
      have he : x = I 1 5 := by omega
      refine aw_iload (pc := 5) dX6_scaledStrength_5 rfl ?_
      refine aw_aload_n (pc := 7) dX6_scaledStrength_7 rfl ?_
      refine aw_getI (pc := 8) dX6_scaledStrength_8 k_fl_X6_30 rfl (by omega) (by first | rfl | exact z_shr _ (by omega) | exact z_shc0 (by omega) | exact z_shc1 (by omega) | exact z_shc2 (by omega) | exact z_shc3 (by omega) | exact z_shc4 (by omega)) ?_
      refine aw_icmp_ge (pc := 11) (tgt := 39) dX6_scaledStrength_11 rfl (by first | omega | exact z_bl_r _) (by first | omega | exact z_bl_r _) (fun h11 => ?_) (fun h11 => absurd h11 (by omega))
      have h2 := hc.r
      refine aw_lload_n (pc := 39) dX6_scaledStrength_39 rfl ?_
      refine aw_aload_n (pc := 40) dX6_scaledStrength_40 rfl ?_
      refine aw_getI (pc := 41) dX6_scaledStrength_41 k_fl_X6_55 rfl (by omega) (by first | rfl | exact z_shr _ (by omega) | exact z_shc0 (by omega) | exact z_shc1 (by omega) | exact z_shc2 (by omega) | exact z_shc3 (by omega) | exact z_shc4 (by omega)) ?_
      refine aw_i2l (pc := 44) dX6_scaledStrength_44 (by first | omega | exact z_bl_r _) ?_
      refine aw_ldc2 (pc := 45) (v := 27720) dX6_scaledStrength_45 k_cst_X6_58 ?_
      refine aw_lmul (pc := 48) dX6_scaledStrength_48 ?_
      refine aw_lsub (pc := 49) dX6_scaledStrength_49 ?_
      exact aw_lreturn (pc := 50) dX6_scaledStrength_50 rfl ⟨Nat.zero_le _, Nat.zero_le _⟩ (⟨by unfold z_cst; rw [he], rfl, rfl, rfl, rfl⟩)
    | succ k ih =>
      intro x hx he
      refine aw_iload (pc := 5) dX6_scaledStrength_5 rfl ?_
      refine aw_aload_n (pc := 7) dX6_scaledStrength_7 rfl ?_
      refine aw_getI (pc := 8) dX6_scaledStrength_8 k_fl_X6_30 rfl (by omega) (by first | rfl | exact z_shr _ (by omega) | exact z_shc0 (by omega) | exact z_shc1 (by omega) | exact z_shc2 (by omega) | exact z_shc3 (by omega) | exact z_shc4 (by omega)) ?_
      refine aw_icmp_ge (pc := 11) (tgt := 39) dX6_scaledStrength_11 rfl (by first | omega | exact z_bl_r _) (by first | omega | exact z_bl_r _) (fun h11 => absurd h11 (by omega)) (fun h11 => ?_)
      have h1 := hc.f x.toNat
      refine aw_lload_n (pc := 14) dX6_scaledStrength_14 rfl ?_
      refine aw_aload_n (pc := 15) dX6_scaledStrength_15 rfl ?_
      refine aw_getR (pc := 16) dX6_scaledStrength_16 k_fl_X6_51 rfl (by omega) (by first | rfl | exact z_shr _ (by omega) | exact z_shc0 (by omega) | exact z_shc1 (by omega) | exact z_shc2 (by omega) | exact z_shc3 (by omega) | exact z_shc4 (by omega)) (by first | rfl | exact z_Rc0 _ (by omega) | exact z_Rc1 _ (by omega) | exact z_Rc2 _ (by omega) | exact z_Rc3 _ (by omega)) ?_
      refine aw_iload (pc := 19) dX6_scaledStrength_19 rfl ?_
      refine aw_iaload (pc := 21) dX6_scaledStrength_21 (by omega) (Nat.le_refl _) (by first | rfl | exact z_shr _ (by omega) | exact z_shc0 (by omega) | exact z_shc1 (by omega) | exact z_shc2 (by omega) | exact z_shc3 (by omega) | exact z_shc4 (by omega)) (by first | omega | exact z_bl_r _) ?_
      refine aw_i2l (pc := 22) dX6_scaledStrength_22 (by first | omega | exact z_bl_r _) ?_
      refine aw_aload_n (pc := 23) dX6_scaledStrength_23 rfl ?_
      refine aw_getR (pc := 24) dX6_scaledStrength_24 k_fl_X6_18 rfl (by omega) (by first | rfl | exact z_shr _ (by omega) | exact z_shc0 (by omega) | exact z_shc1 (by omega) | exact z_shc2 (by omega) | exact z_shc3 (by omega) | exact z_shc4 (by omega)) (by first | rfl | exact z_Rc0 _ (by omega) | exact z_Rc1 _ (by omega) | exact z_Rc2 _ (by omega) | exact z_Rc3 _ (by omega)) ?_
      refine aw_iload (pc := 27) dX6_scaledStrength_27 rfl ?_
      refine aw_laload (pc := 29) dX6_scaledStrength_29 (by omega) (Nat.le_refl _) (by first | rfl | exact z_shr _ (by omega) | exact z_shc0 (by omega) | exact z_shc1 (by omega) | exact z_shc2 (by omega) | exact z_shc3 (by omega) | exact z_shc4 (by omega)) (by first | omega | exact z_bl_r _) ?_
      refine aw_lmul (pc := 30) dX6_scaledStrength_30 ?_
      refine aw_ladd (pc := 31) dX6_scaledStrength_31 ?_
      refine aw_lstore_n (pc := 32) (lv' := [_, _, _, _, _]) dX6_scaledStrength_32 (Nat.le_of_ble_eq_true rfl) rfl ?_
      refine aw_iinc (pc := 33) (lv' := [_, _, _, _, _]) dX6_scaledStrength_33 (Nat.le_of_ble_eq_true rfl) rfl rfl ?_
      refine aw_goto (pc := 36) (tgt := 5) dX6_scaledStrength_36 rfl ?_
      rw [← z_sm_s (fun n => I (19 + 5 * c + 1) n * J 4 n) hx]
      exact ih (x + 1) (by omega) (by omega)
  refine aw_lconst (pc := 0) (v := 0) dX6_scaledStrength_0 rfl ?_
  refine aw_lstore_n (pc := 1) (lv' := [_, _, _, _, _]) dX6_scaledStrength_1 (Nat.le_of_ble_eq_true rfl) rfl ?_
  refine aw_iconst (pc := 2) dX6_scaledStrength_2 ?_
  refine aw_istore (pc := 3) (lv' := [_, _, _, _, _]) dX6_scaledStrength_3 (Nat.le_of_ble_eq_true rfl) rfl ?_
  exact loop (I 1 5).toNat 0 (by omega) (by omega)
set_option maxHeartbeats 4000000 in
theorem c_fill {π : Nat → Nat} {I J : AwI} {a n : Nat} {v : Int} (ha : a < 255) (hs : z_sh a = (0, n)) (hn : n ≤ 2000) : CT m_J7_fill_53178 [zr a, zi v] 255 I J (z_R π) (z_P none 255 (z_fl I a n v) J (z_R π)) := by
  refine CT.of (by decide) (Nat.le_of_ble_eq_true rfl) ?_
  show AW _ 0 0 _ 0 [some (zr a), some (zi v), none, none] [] _ _ _
  have loop : ∀ (k : Nat) (x : Int), 0 ≤ x → x + k = n → AW (FM m_J7_fill_53178 (z_P none 255 (z_fl I a n v) J (z_R π))) 0 0 255 5 [some (zr a), some (zi v), some (zi x), some (zi (n : Int))] [] (z_fl I a x.toNat v) J (z_R π) := by
    intro k
    induction k with
    | zero =>
      intro x hx he
      refine aw_iload_n (pc := 5) dJ7_fill_53178_5 rfl ?_
      refine aw_iload_n (pc := 6) dJ7_fill_53178_6 rfl ?_
      refine aw_icmp_ge (pc := 7) (tgt := 20) dJ7_fill_53178_7 rfl (by first | omega | exact z_bl_r _) (by first | omega | exact z_bl_r _) (fun h7 => ?_) (fun h7 => absurd h7 (by omega))
      exact aw_return (pc := 20) dJ7_fill_53178_20 rfl ⟨Nat.zero_le _, Nat.zero_le _⟩ (⟨rfl, rfl, by rw [show x.toNat = n by omega], rfl, rfl⟩)
    | succ k ih =>
      intro x hx he
      refine aw_iload_n (pc := 5) dJ7_fill_53178_5 rfl ?_
      refine aw_iload_n (pc := 6) dJ7_fill_53178_6 rfl ?_
      refine aw_icmp_ge (pc := 7) (tgt := 20) dJ7_fill_53178_7 rfl (by first | omega | exact z_bl_r _) (by first | omega | exact z_bl_r _) (fun h7 => absurd h7 (by omega)) (fun h7 => ?_)
      refine aw_aload_n (pc := 10) dJ7_fill_53178_10 rfl ?_
      refine aw_iload_n (pc := 11) dJ7_fill_53178_11 rfl ?_
      refine aw_iload_n (pc := 12) dJ7_fill_53178_12 rfl ?_
      refine aw_iastore (pc := 13) dJ7_fill_53178_13 (by omega) (Nat.le_refl _) hs (by first | omega | exact z_bl_r _) ?_
      refine aw_iinc (pc := 14) (lv' := [_, _, _, _]) dJ7_fill_53178_14 (Nat.le_of_ble_eq_true rfl) rfl rfl ?_
      refine aw_goto (pc := 17) (tgt := 5) dJ7_fill_53178_17 rfl ?_
      rw [z_fl_s _ _ _ hx]
      exact ih (x + 1) (by omega) (by omega)
  refine aw_iconst (pc := 0) dJ7_fill_53178_0 ?_
  refine aw_istore_n (pc := 1) (lv' := [_, _, _, _]) dJ7_fill_53178_1 (Nat.le_of_ble_eq_true rfl) rfl ?_
  refine aw_aload_n (pc := 2) dJ7_fill_53178_2 rfl ?_
  refine aw_alen (pc := 3) dJ7_fill_53178_3 (by omega) (Nat.le_refl _) hs (by omega) ?_
  refine aw_istore_n (pc := 4) (lv' := [_, _, _, _]) dJ7_fill_53178_4 (Nat.le_of_ble_eq_true rfl) rfl ?_
  have e := loop n 0 (by omega) (by omega)
  rw [show (0 : Int).toNat = 0 from rfl, z_fl_0] at e
  exact e
set_option maxHeartbeats 4000000 in
theorem c_X8_isIn {R : AwR} {I J : AwI} {s w : Nat} (hs : s < 2147483648) (hw : w < 31) : CT m_X8_isIn [zi (s : Int), zi (w : Int)] 255 I J R (z_P (some (zi (z_bl (s.testBit w = true)))) 255 I J R) := by
  refine CT.of (by decide) (Nat.le_of_ble_eq_true rfl) ?_
  show AW _ 0 0 _ 0 [some (zi (s : Int)), some (zi (w : Int))] [] _ _ _
  refine aw_iload_n (pc := 0) dX8_isIn_0 rfl ?_
  refine aw_iload_n (pc := 1) dX8_isIn_1 rfl ?_
  refine aw_shr (pc := 2) dX8_isIn_2 rfl rfl (by omega) (by omega) ?_
  refine aw_iconst (pc := 3) dX8_isIn_3 ?_
  refine aw_iand (pc := 4) dX8_isIn_4 rfl (b := 1) rfl ?_
  refine aw_iconst (pc := 5) dX8_isIn_5 ?_
  refine aw_icmp_ne (pc := 6) (tgt := 13) dX8_isIn_6 rfl (by rw [Nat.and_one_is_mod]; omega) (by omega) (fun h6 => ?_) (fun h6 => ?_)
  · refine aw_iconst (pc := 13) dX8_isIn_13 ?_
    exact aw_zreturn (pc := 14) dX8_isIn_14 rfl (by first | exact Or.inl rfl | exact Or.inr rfl | omega) ⟨Nat.zero_le _, Nat.zero_le _⟩ (⟨by first | exact z_r1 (by rw [Nat.testBit_eq_decide_div_mod_eq, decide_eq_true_eq]; rw [Nat.and_one_is_mod] at h6; omega) | exact z_r0 (by rw [Nat.testBit_eq_decide_div_mod_eq, decide_eq_true_eq]; rw [Nat.and_one_is_mod] at h6; omega), rfl, rfl, rfl, rfl⟩)
  · refine aw_iconst (pc := 9) dX8_isIn_9 ?_
    refine aw_goto (pc := 10) (tgt := 14) dX8_isIn_10 rfl ?_
    exact aw_zreturn (pc := 14) dX8_isIn_14 rfl (by first | exact Or.inl rfl | exact Or.inr rfl | omega) ⟨Nat.zero_le _, Nat.zero_le _⟩ (⟨by first | exact z_r1 (by rw [Nat.testBit_eq_decide_div_mod_eq, decide_eq_true_eq]; rw [Nat.and_one_is_mod] at h6; omega) | exact z_r0 (by rw [Nat.testBit_eq_decide_div_mod_eq, decide_eq_true_eq]; rw [Nat.and_one_is_mod] at h6; omega), rfl, rfl, rfl, rfl⟩)
set_option maxHeartbeats 4000000 in
theorem c_X8_isBeyond {R : AwR} {I J : AwI} {v t : Int} (hv : -2147483648 ≤ v ∧ v ≤ 2147483647) (ht : 0 ≤ t ∧ t ≤ 20000) : CT m_X8_isBeyond [zi v, zi t] 255 I J R (z_P (some (zi (z_bl (v < -t ∨ t < v)))) 255 I J R) := by
  refine CT.of (by decide) (Nat.le_of_ble_eq_true rfl) ?_
  show AW _ 0 0 _ 0 [some (zi v), some (zi t)] [] _ _ _
  refine aw_iload_n (pc := 0) dX8_isBeyond_0 rfl ?_
  refine aw_iload_n (pc := 1) dX8_isBeyond_1 rfl ?_
  refine aw_ineg (pc := 2) dX8_isBeyond_2 ?_
  refine aw_icmp_lt (pc := 3) (tgt := 11) dX8_isBeyond_3 rfl (by first | omega | exact z_bl_r _) (by first | omega | exact z_bl_r _) (fun h3 => ?_) (fun h3 => ?_)
  · refine aw_iconst (pc := 11) dX8_isBeyond_11 ?_
    refine aw_goto (pc := 12) (tgt := 16) dX8_isBeyond_12 rfl ?_
    exact aw_zreturn (pc := 16) dX8_isBeyond_16 rfl (by first | exact Or.inl rfl | exact Or.inr rfl | omega) ⟨Nat.zero_le _, Nat.zero_le _⟩ (⟨by first | exact z_r1 (by omega) | exact z_r0 (by omega), rfl, rfl, rfl, rfl⟩)
  · refine aw_iload_n (pc := 6) dX8_isBeyond_6 rfl ?_
    refine aw_iload_n (pc := 7) dX8_isBeyond_7 rfl ?_
    refine aw_icmp_le (pc := 8) (tgt := 15) dX8_isBeyond_8 rfl (by first | omega | exact z_bl_r _) (by first | omega | exact z_bl_r _) (fun h8 => ?_) (fun h8 => ?_)
    · refine aw_iconst (pc := 15) dX8_isBeyond_15 ?_
      exact aw_zreturn (pc := 16) dX8_isBeyond_16 rfl (by first | exact Or.inl rfl | exact Or.inr rfl | omega) ⟨Nat.zero_le _, Nat.zero_le _⟩ (⟨by first | exact z_r1 (by omega) | exact z_r0 (by omega), rfl, rfl, rfl, rfl⟩)
    · refine aw_iconst (pc := 11) dX8_isBeyond_11 ?_
      refine aw_goto (pc := 12) (tgt := 16) dX8_isBeyond_12 rfl ?_
      exact aw_zreturn (pc := 16) dX8_isBeyond_16 rfl (by first | exact Or.inl rfl | exact Or.inr rfl | omega) ⟨Nat.zero_le _, Nat.zero_le _⟩ (⟨by first | exact z_r1 (by omega) | exact z_r0 (by omega), rfl, rfl, rfl, rfl⟩)
end
