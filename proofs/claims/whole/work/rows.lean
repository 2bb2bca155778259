section
-- ===== PART A: goes FIRST, ahead of the names: the tables' words, and 'selects' of the private methods out of them =====
/-- a private method of a class that the tables say can be made, by its rows of tables_1 -/
def lw_okq (q : MethodName × Nat) : Prop := (q.1.cls ≠ "java/lang/invoke/MethodHandle" ∧ q.1.cls ≠ "java/lang/invoke/VarHandle") ∧ Cond.instantiable q.1.cls q.2 ∈ tables_1 ∧ Cond.privateMethod q.1 ∈ tables_1 ∧ Cond.instanceMethod q.1 ∈ tables_1
theorem lw_p0 : lw_okq (⟨"PowerBonds", "settlerOf", "(I)I"⟩, 13) := ⟨⟨by decide +kernel, by decide +kernel⟩, List.mem_of_getElem? (i := 20) (by decide +kernel), List.mem_of_getElem? (i := 387) (by decide +kernel), List.mem_of_getElem? (i := 388) (by decide +kernel)⟩
theorem lw_p1 : lw_okq (⟨"PowerBonds$LineUps", "allows", "(LPowerBonds$Part;II)Z"⟩, 5) := ⟨⟨by decide +kernel, by decide +kernel⟩, List.mem_of_getElem? (i := 144) (by decide +kernel), List.mem_of_getElem? (i := 410) (by decide +kernel), List.mem_of_getElem? (i := 411) (by decide +kernel)⟩
theorem lw_p2 : lw_okq (⟨"PowerBonds$LineUps", "settledBy", "(II)I"⟩, 5) := ⟨⟨by decide +kernel, by decide +kernel⟩, List.mem_of_getElem? (i := 144) (by decide +kernel), List.mem_of_getElem? (i := 414) (by decide +kernel), List.mem_of_getElem? (i := 415) (by decide +kernel)⟩
theorem lw_p3 : lw_okq (⟨"PowerBonds$LineUps", "weigh", "(LPowerBonds$Machine;I)V"⟩, 5) := ⟨⟨by decide +kernel, by decide +kernel⟩, List.mem_of_getElem? (i := 144) (by decide +kernel), List.mem_of_getElem? (i := 424) (by decide +kernel), List.mem_of_getElem? (i := 425) (by decide +kernel)⟩
theorem lw_p4 : lw_okq (⟨"PowerBonds$LineUps", "sums", "(LPowerBonds$Machine;II)Z"⟩, 5) := ⟨⟨by decide +kernel, by decide +kernel⟩, List.mem_of_getElem? (i := 144) (by decide +kernel), List.mem_of_getElem? (i := 428) (by decide +kernel), List.mem_of_getElem? (i := 429) (by decide +kernel)⟩
theorem lw_p5 : lw_okq (⟨"PowerBonds$LineUps", "nextWithout", "(II)I"⟩, 5) := ⟨⟨by decide +kernel, by decide +kernel⟩, List.mem_of_getElem? (i := 144) (by decide +kernel), List.mem_of_getElem? (i := 432) (by decide +kernel), List.mem_of_getElem? (i := 433) (by decide +kernel)⟩
theorem lw_p6 : lw_okq (⟨"PowerBonds", "carriedBy", "(II)I"⟩, 13) := ⟨⟨by decide +kernel, by decide +kernel⟩, List.mem_of_getElem? (i := 20) (by decide +kernel), List.mem_of_getElem? (i := 437) (by decide +kernel), List.mem_of_getElem? (i := 438) (by decide +kernel)⟩
theorem lw_p7 : lw_okq (⟨"PowerBonds$Answer", "writeLaws", "(LPowerBonds$Machine;)V"⟩, 5) := ⟨⟨by decide +kernel, by decide +kernel⟩, List.mem_of_getElem? (i := 115) (by decide +kernel), List.mem_of_getElem? (i := 447) (by decide +kernel), List.mem_of_getElem? (i := 448) (by decide +kernel)⟩
theorem lw_p8 : lw_okq (⟨"PowerBonds$Answer", "writeTurn", "(LPowerBonds$Part;II)V"⟩, 5) := ⟨⟨by decide +kernel, by decide +kernel⟩, List.mem_of_getElem? (i := 115) (by decide +kernel), List.mem_of_getElem? (i := 455) (by decide +kernel), List.mem_of_getElem? (i := 456) (by decide +kernel)⟩
theorem lw_p9 : lw_okq (⟨"PowerBonds$Answer", "writeTimes", "(III)V"⟩, 5) := ⟨⟨by decide +kernel, by decide +kernel⟩, List.mem_of_getElem? (i := 115) (by decide +kernel), List.mem_of_getElem? (i := 463) (by decide +kernel), List.mem_of_getElem? (i := 464) (by decide +kernel)⟩
theorem lw_p10 : lw_okq (⟨"PowerBonds$Answer", "newRow", "()[J"⟩, 5) := ⟨⟨by decide +kernel, by decide +kernel⟩, List.mem_of_getElem? (i := 115) (by decide +kernel), List.mem_of_getElem? (i := 467) (by decide +kernel), List.mem_of_getElem? (i := 468) (by decide +kernel)⟩
theorem lw_p11 : lw_okq (⟨"PowerBonds$Answer", "writeJoin", "(LPowerBonds$Machine;II)V"⟩, 5) := ⟨⟨by decide +kernel, by decide +kernel⟩, List.mem_of_getElem? (i := 115) (by decide +kernel), List.mem_of_getElem? (i := 475) (by decide +kernel), List.mem_of_getElem? (i := 476) (by decide +kernel)⟩
theorem lw_p12 : lw_okq (⟨"PowerBonds$Answer", "writeEnd", "(LPowerBonds$Part;I)V"⟩, 5) := ⟨⟨by decide +kernel, by decide +kernel⟩, List.mem_of_getElem? (i := 115) (by decide +kernel), List.mem_of_getElem? (i := 480) (by decide +kernel), List.mem_of_getElem? (i := 481) (by decide +kernel)⟩
theorem lw_p13 : lw_okq (⟨"PowerBonds$Answer", "reduce", "()I"⟩, 5) := ⟨⟨by decide +kernel, by decide +kernel⟩, List.mem_of_getElem? (i := 115) (by decide +kernel), List.mem_of_getElem? (i := 485) (by decide +kernel), List.mem_of_getElem? (i := 486) (by decide +kernel)⟩
theorem lw_p14 : lw_okq (⟨"PowerBonds$Answer", "rowWith", "(II)I"⟩, 5) := ⟨⟨by decide +kernel, by decide +kernel⟩, List.mem_of_getElem? (i := 115) (by decide +kernel), List.mem_of_getElem? (i := 489) (by decide +kernel), List.mem_of_getElem? (i := 490) (by decide +kernel)⟩
theorem lw_p15 : lw_okq (⟨"PowerBonds$Answer", "scale", "([JI)V"⟩, 5) := ⟨⟨by decide +kernel, by decide +kernel⟩, List.mem_of_getElem? (i := 115) (by decide +kernel), List.mem_of_getElem? (i := 493) (by decide +kernel), List.mem_of_getElem? (i := 494) (by decide +kernel)⟩
def lw_privs_1 : List (MethodName × Nat) := [(⟨"PowerBonds", "settlerOf", "(I)I"⟩, 13), (⟨"PowerBonds$LineUps", "allows", "(LPowerBonds$Part;II)Z"⟩, 5), (⟨"PowerBonds$LineUps", "settledBy", "(II)I"⟩, 5), (⟨"PowerBonds$LineUps", "weigh", "(LPowerBonds$Machine;I)V"⟩, 5), (⟨"PowerBonds$LineUps", "sums", "(LPowerBonds$Machine;II)Z"⟩, 5), (⟨"PowerBonds$LineUps", "nextWithout", "(II)I"⟩, 5), (⟨"PowerBonds", "carriedBy", "(II)I"⟩, 13), (⟨"PowerBonds$Answer", "writeLaws", "(LPowerBonds$Machine;)V"⟩, 5), (⟨"PowerBonds$Answer", "writeTurn", "(LPowerBonds$Part;II)V"⟩, 5), (⟨"PowerBonds$Answer", "writeTimes", "(III)V"⟩, 5), (⟨"PowerBonds$Answer", "newRow", "()[J"⟩, 5), (⟨"PowerBonds$Answer", "writeJoin", "(LPowerBonds$Machine;II)V"⟩, 5), (⟨"PowerBonds$Answer", "writeEnd", "(LPowerBonds$Part;I)V"⟩, 5), (⟨"PowerBonds$Answer", "reduce", "()I"⟩, 5), (⟨"PowerBonds$Answer", "rowWith", "(II)I"⟩, 5), (⟨"PowerBonds$Answer", "scale", "([JI)V"⟩, 5)]
theorem lw_r1 : ∀ q ∈ lw_privs_1, lw_okq q := List.forall_mem_cons.mpr ⟨lw_p0, List.forall_mem_cons.mpr ⟨lw_p1, List.forall_mem_cons.mpr ⟨lw_p2, List.forall_mem_cons.mpr ⟨lw_p3, List.forall_mem_cons.mpr ⟨lw_p4, List.forall_mem_cons.mpr ⟨lw_p5, List.forall_mem_cons.mpr ⟨lw_p6, List.forall_mem_cons.mpr ⟨lw_p7, List.forall_mem_cons.mpr ⟨lw_p8, List.forall_mem_cons.mpr ⟨lw_p9, List.forall_mem_cons.mpr ⟨lw_p10, List.forall_mem_cons.mpr ⟨lw_p11, List.forall_mem_cons.mpr ⟨lw_p12, List.forall_mem_cons.mpr ⟨lw_p13, List.forall_mem_cons.mpr ⟨lw_p14, List.forall_mem_cons.mpr ⟨lw_p15, fun _ h => absurd h List.not_mem_nil⟩⟩⟩⟩⟩⟩⟩⟩⟩⟩⟩⟩⟩⟩⟩⟩
theorem lw_p16 : lw_okq (⟨"PowerBonds$Answer", "clearOthers", "(II)V"⟩, 5) := ⟨⟨by decide +kernel, by decide +kernel⟩, List.mem_of_getElem? (i := 115) (by decide +kernel), List.mem_of_getElem? (i := 499) (by decide +kernel), List.mem_of_getElem? (i := 500) (by decide +kernel)⟩
theorem lw_p17 : lw_okq (⟨"PowerBonds$Tape", "goOn", "()V"⟩, 9) := ⟨⟨by decide +kernel, by decide +kernel⟩, List.mem_of_getElem? (i := 169) (by decide +kernel), List.mem_of_getElem? (i := 594) (by decide +kernel), List.mem_of_getElem? (i := 595) (by decide +kernel)⟩
theorem lw_p18 : lw_okq (⟨"PowerBonds$Tape", "sortAt", "(I)I"⟩, 9) := ⟨⟨by decide +kernel, by decide +kernel⟩, List.mem_of_getElem? (i := 169) (by decide +kernel), List.mem_of_getElem? (i := 598) (by decide +kernel), List.mem_of_getElem? (i := 599) (by decide +kernel)⟩
theorem lw_p19 : lw_okq (⟨"PowerBonds$Tape", "keyHere", "()I"⟩, 9) := ⟨⟨by decide +kernel, by decide +kernel⟩, List.mem_of_getElem? (i := 169) (by decide +kernel), List.mem_of_getElem? (i := 602) (by decide +kernel), List.mem_of_getElem? (i := 603) (by decide +kernel)⟩
theorem lw_p20 : lw_okq (⟨"PowerBonds$Tape", "isWord", "(Ljava/lang/String;)Z"⟩, 9) := ⟨⟨by decide +kernel, by decide +kernel⟩, List.mem_of_getElem? (i := 169) (by decide +kernel), List.mem_of_getElem? (i := 607) (by decide +kernel), List.mem_of_getElem? (i := 608) (by decide +kernel)⟩
theorem lw_p21 : lw_okq (⟨"PowerBonds$Tape", "numberHere", "()I"⟩, 9) := ⟨⟨by decide +kernel, by decide +kernel⟩, List.mem_of_getElem? (i := 169) (by decide +kernel), List.mem_of_getElem? (i := 660) (by decide +kernel), List.mem_of_getElem? (i := 661) (by decide +kernel)⟩
theorem lw_p22 : lw_okq (⟨"PowerBonds$Tape", "readLevel", "(III)Z"⟩, 9) := ⟨⟨by decide +kernel, by decide +kernel⟩, List.mem_of_getElem? (i := 169) (by decide +kernel), List.mem_of_getElem? (i := 664) (by decide +kernel), List.mem_of_getElem? (i := 665) (by decide +kernel)⟩
theorem lw_p23 : lw_okq (⟨"PowerBonds$Tape", "readPiece", "(II)Z"⟩, 9) := ⟨⟨by decide +kernel, by decide +kernel⟩, List.mem_of_getElem? (i := 169) (by decide +kernel), List.mem_of_getElem? (i := 668) (by decide +kernel), List.mem_of_getElem? (i := 669) (by decide +kernel)⟩
theorem lw_p24 : lw_okq (⟨"PowerBonds$Tape", "isSign", "(I)Z"⟩, 9) := ⟨⟨by decide +kernel, by decide +kernel⟩, List.mem_of_getElem? (i := 169) (by decide +kernel), List.mem_of_getElem? (i := 672) (by decide +kernel), List.mem_of_getElem? (i := 673) (by decide +kernel)⟩
theorem lw_p25 : lw_okq (⟨"PowerBonds$Tape", "put", "(I)V"⟩, 9) := ⟨⟨by decide +kernel, by decide +kernel⟩, List.mem_of_getElem? (i := 169) (by decide +kernel), List.mem_of_getElem? (i := 676) (by decide +kernel), List.mem_of_getElem? (i := 677) (by decide +kernel)⟩
theorem lw_p26 : lw_okq (⟨"PowerBonds$Tape", "readOperand", "()Z"⟩, 9) := ⟨⟨by decide +kernel, by decide +kernel⟩, List.mem_of_getElem? (i := 169) (by decide +kernel), List.mem_of_getElem? (i := 680) (by decide +kernel), List.mem_of_getElem? (i := 681) (by decide +kernel)⟩
theorem lw_p27 : lw_okq (⟨"PowerBonds$Tape", "isName", "()Z"⟩, 9) := ⟨⟨by decide +kernel, by decide +kernel⟩, List.mem_of_getElem? (i := 169) (by decide +kernel), List.mem_of_getElem? (i := 684) (by decide +kernel), List.mem_of_getElem? (i := 685) (by decide +kernel)⟩
theorem lw_p28 : lw_okq (⟨"PowerBonds$Tape", "joinsAt", "(I)Z"⟩, 9) := ⟨⟨by decide +kernel, by decide +kernel⟩, List.mem_of_getElem? (i := 169) (by decide +kernel), List.mem_of_getElem? (i := 688) (by decide +kernel), List.mem_of_getElem? (i := 689) (by decide +kernel)⟩
theorem lw_p29 : lw_okq (⟨"PowerBonds", "signsOf", "(I)I"⟩, 13) := ⟨⟨by decide +kernel, by decide +kernel⟩, List.mem_of_getElem? (i := 20) (by decide +kernel), List.mem_of_getElem? (i := 756) (by decide +kernel), List.mem_of_getElem? (i := 757) (by decide +kernel)⟩
theorem lw_p30 : lw_okq (⟨"PowerBondsModel", "partAt", "(I)I"⟩, 35) := ⟨⟨by decide +kernel, by decide +kernel⟩, List.mem_of_getElem? (i := 891) (by decide +kernel), List.mem_of_getElem? (i := 1032) (by decide +kernel), List.mem_of_getElem? (i := 1033) (by decide +kernel)⟩
theorem lw_p31 : lw_okq (⟨"PowerBondsModel", "isPart", "(I)Z"⟩, 35) := ⟨⟨by decide +kernel, by decide +kernel⟩, List.mem_of_getElem? (i := 891) (by decide +kernel), List.mem_of_getElem? (i := 1040) (by decide +kernel), List.mem_of_getElem? (i := 1041) (by decide +kernel)⟩
def lw_privs_2 : List (MethodName × Nat) := [(⟨"PowerBonds$Answer", "clearOthers", "(II)V"⟩, 5), (⟨"PowerBonds$Tape", "goOn", "()V"⟩, 9), (⟨"PowerBonds$Tape", "sortAt", "(I)I"⟩, 9), (⟨"PowerBonds$Tape", "keyHere", "()I"⟩, 9), (⟨"PowerBonds$Tape", "isWord", "(Ljava/lang/String;)Z"⟩, 9), (⟨"PowerBonds$Tape", "numberHere", "()I"⟩, 9), (⟨"PowerBonds$Tape", "readLevel", "(III)Z"⟩, 9), (⟨"PowerBonds$Tape", "readPiece", "(II)Z"⟩, 9), (⟨"PowerBonds$Tape", "isSign", "(I)Z"⟩, 9), (⟨"PowerBonds$Tape", "put", "(I)V"⟩, 9), (⟨"PowerBonds$Tape", "readOperand", "()Z"⟩, 9), (⟨"PowerBonds$Tape", "isName", "()Z"⟩, 9), (⟨"PowerBonds$Tape", "joinsAt", "(I)Z"⟩, 9), (⟨"PowerBonds", "signsOf", "(I)I"⟩, 13), (⟨"PowerBondsModel", "partAt", "(I)I"⟩, 35), (⟨"PowerBondsModel", "isPart", "(I)Z"⟩, 35)]
theorem lw_r2 : ∀ q ∈ lw_privs_2, lw_okq q := List.forall_mem_cons.mpr ⟨lw_p16, List.forall_mem_cons.mpr ⟨lw_p17, List.forall_mem_cons.mpr ⟨lw_p18, List.forall_mem_cons.mpr ⟨lw_p19, List.forall_mem_cons.mpr ⟨lw_p20, List.forall_mem_cons.mpr ⟨lw_p21, List.forall_mem_cons.mpr ⟨lw_p22, List.forall_mem_cons.mpr ⟨lw_p23, List.forall_mem_cons.mpr ⟨lw_p24, List.forall_mem_cons.mpr ⟨lw_p25, List.forall_mem_cons.mpr ⟨lw_p26, List.forall_mem_cons.mpr ⟨lw_p27, List.forall_mem_cons.mpr ⟨lw_p28, List.forall_mem_cons.mpr ⟨lw_p29, List.forall_mem_cons.mpr ⟨lw_p30, List.forall_mem_cons.mpr ⟨lw_p31, fun _ h => absurd h List.not_mem_nil⟩⟩⟩⟩⟩⟩⟩⟩⟩⟩⟩⟩⟩⟩⟩⟩
theorem lw_p32 : lw_okq (⟨"PowerBondsModel", "endsOf", "(I)I"⟩, 35) := ⟨⟨by decide +kernel, by decide +kernel⟩, List.mem_of_getElem? (i := 891) (by decide +kernel), List.mem_of_getElem? (i := 1044) (by decide +kernel), List.mem_of_getElem? (i := 1045) (by decide +kernel)⟩
theorem lw_p33 : lw_okq (⟨"PowerBondsModel", "comes", "(II)I"⟩, 35) := ⟨⟨by decide +kernel, by decide +kernel⟩, List.mem_of_getElem? (i := 891) (by decide +kernel), List.mem_of_getElem? (i := 1048) (by decide +kernel), List.mem_of_getElem? (i := 1049) (by decide +kernel)⟩
theorem lw_p34 : lw_okq (⟨"PowerBondsModel", "hasEnds", "(I)Z"⟩, 35) := ⟨⟨by decide +kernel, by decide +kernel⟩, List.mem_of_getElem? (i := 891) (by decide +kernel), List.mem_of_getElem? (i := 1052) (by decide +kernel), List.mem_of_getElem? (i := 1053) (by decide +kernel)⟩
theorem lw_p35 : lw_okq (⟨"PowerBondsModel", "kindOf", "(I)I"⟩, 35) := ⟨⟨by decide +kernel, by decide +kernel⟩, List.mem_of_getElem? (i := 891) (by decide +kernel), List.mem_of_getElem? (i := 1056) (by decide +kernel), List.mem_of_getElem? (i := 1057) (by decide +kernel)⟩
theorem lw_p36 : lw_okq (⟨"PowerBondsModel", "becomes", "(II)I"⟩, 35) := ⟨⟨by decide +kernel, by decide +kernel⟩, List.mem_of_getElem? (i := 891) (by decide +kernel), List.mem_of_getElem? (i := 1076) (by decide +kernel), List.mem_of_getElem? (i := 1077) (by decide +kernel)⟩
theorem lw_p37 : lw_okq (⟨"PowerBondsModel", "isBond", "(I)Z"⟩, 35) := ⟨⟨by decide +kernel, by decide +kernel⟩, List.mem_of_getElem? (i := 891) (by decide +kernel), List.mem_of_getElem? (i := 1088) (by decide +kernel), List.mem_of_getElem? (i := 1089) (by decide +kernel)⟩
theorem lw_p38 : lw_okq (⟨"PowerBondsModel", "isWhole", "()Z"⟩, 35) := ⟨⟨by decide +kernel, by decide +kernel⟩, List.mem_of_getElem? (i := 891) (by decide +kernel), List.mem_of_getElem? (i := 1096) (by decide +kernel), List.mem_of_getElem? (i := 1097) (by decide +kernel)⟩
theorem lw_p39 : lw_okq (⟨"PowerBondsModel", "solve", "()I"⟩, 35) := ⟨⟨by decide +kernel, by decide +kernel⟩, List.mem_of_getElem? (i := 891) (by decide +kernel), List.mem_of_getElem? (i := 1104) (by decide +kernel), List.mem_of_getElem? (i := 1105) (by decide +kernel)⟩
theorem lw_p40 : lw_okq (⟨"PowerBondsModel", "lawsOf", "(I)V"⟩, 35) := ⟨⟨by decide +kernel, by decide +kernel⟩, List.mem_of_getElem? (i := 891) (by decide +kernel), List.mem_of_getElem? (i := 1108) (by decide +kernel), List.mem_of_getElem? (i := 1109) (by decide +kernel)⟩
theorem lw_p41 : lw_okq (⟨"PowerBondsModel", "lawsOfTurn", "(IJ)V"⟩, 35) := ⟨⟨by decide +kernel, by decide +kernel⟩, List.mem_of_getElem? (i := 891) (by decide +kernel), List.mem_of_getElem? (i := 1112) (by decide +kernel), List.mem_of_getElem? (i := 1113) (by decide +kernel)⟩
theorem lw_p42 : lw_okq (⟨"PowerBondsModel", "bondOf", "(II)I"⟩, 35) := ⟨⟨by decide +kernel, by decide +kernel⟩, List.mem_of_getElem? (i := 891) (by decide +kernel), List.mem_of_getElem? (i := 1116) (by decide +kernel), List.mem_of_getElem? (i := 1117) (by decide +kernel)⟩
theorem lw_p43 : lw_okq (⟨"PowerBondsModel", "sortOf", "(I)I"⟩, 35) := ⟨⟨by decide +kernel, by decide +kernel⟩, List.mem_of_getElem? (i := 891) (by decide +kernel), List.mem_of_getElem? (i := 1120) (by decide +kernel), List.mem_of_getElem? (i := 1121) (by decide +kernel)⟩
theorem lw_p44 : lw_okq (⟨"PowerBondsModel", "line", "()V"⟩, 35) := ⟨⟨by decide +kernel, by decide +kernel⟩, List.mem_of_getElem? (i := 891) (by decide +kernel), List.mem_of_getElem? (i := 1124) (by decide +kernel), List.mem_of_getElem? (i := 1125) (by decide +kernel)⟩
theorem lw_p45 : lw_okq (⟨"PowerBondsModel", "put", "(IIJ)V"⟩, 35) := ⟨⟨by decide +kernel, by decide +kernel⟩, List.mem_of_getElem? (i := 891) (by decide +kernel), List.mem_of_getElem? (i := 1128) (by decide +kernel), List.mem_of_getElem? (i := 1129) (by decide +kernel)⟩
theorem lw_p46 : lw_okq (⟨"PowerBondsModel", "lawsOfJoin", "(I)V"⟩, 35) := ⟨⟨by decide +kernel, by decide +kernel⟩, List.mem_of_getElem? (i := 891) (by decide +kernel), List.mem_of_getElem? (i := 1132) (by decide +kernel), List.mem_of_getElem? (i := 1133) (by decide +kernel)⟩
theorem lw_p47 : lw_okq (⟨"PowerBondsModel", "comesTo", "(J)V"⟩, 35) := ⟨⟨by decide +kernel, by decide +kernel⟩, List.mem_of_getElem? (i := 891) (by decide +kernel), List.mem_of_getElem? (i := 1137) (by decide +kernel), List.mem_of_getElem? (i := 1138) (by decide +kernel)⟩
def lw_privs_3 : List (MethodName × Nat) := [(⟨"PowerBondsModel", "endsOf", "(I)I"⟩, 35), (⟨"PowerBondsModel", "comes", "(II)I"⟩, 35), (⟨"PowerBondsModel", "hasEnds", "(I)Z"⟩, 35), (⟨"PowerBondsModel", "kindOf", "(I)I"⟩, 35), (⟨"PowerBondsModel", "becomes", "(II)I"⟩, 35), (⟨"PowerBondsModel", "isBond", "(I)Z"⟩, 35), (⟨"PowerBondsModel", "isWhole", "()Z"⟩, 35), (⟨"PowerBondsModel", "solve", "()I"⟩, 35), (⟨"PowerBondsModel", "lawsOf", "(I)V"⟩, 35), (⟨"PowerBondsModel", "lawsOfTurn", "(IJ)V"⟩, 35), (⟨"PowerBondsModel", "bondOf", "(II)I"⟩, 35), (⟨"PowerBondsModel", "sortOf", "(I)I"⟩, 35), (⟨"PowerBondsModel", "line", "()V"⟩, 35), (⟨"PowerBondsModel", "put", "(IIJ)V"⟩, 35), (⟨"PowerBondsModel", "lawsOfJoin", "(I)V"⟩, 35), (⟨"PowerBondsModel", "comesTo", "(J)V"⟩, 35)]
theorem lw_r3 : ∀ q ∈ lw_privs_3, lw_okq q := List.forall_mem_cons.mpr ⟨lw_p32, List.forall_mem_cons.mpr ⟨lw_p33, List.forall_mem_cons.mpr ⟨lw_p34, List.forall_mem_cons.mpr ⟨lw_p35, List.forall_mem_cons.mpr ⟨lw_p36, List.forall_mem_cons.mpr ⟨lw_p37, List.forall_mem_cons.mpr ⟨lw_p38, List.forall_mem_cons.mpr ⟨lw_p39, List.forall_mem_cons.mpr ⟨lw_p40, List.forall_mem_cons.mpr ⟨lw_p41, List.forall_mem_cons.mpr ⟨lw_p42, List.forall_mem_cons.mpr ⟨lw_p43, List.forall_mem_cons.mpr ⟨lw_p44, List.forall_mem_cons.mpr ⟨lw_p45, List.forall_mem_cons.mpr ⟨lw_p46, List.forall_mem_cons.mpr ⟨lw_p47, fun _ h => absurd h List.not_mem_nil⟩⟩⟩⟩⟩⟩⟩⟩⟩⟩⟩⟩⟩⟩⟩⟩
theorem lw_p48 : lw_okq (⟨"PowerBondsModel", "swap", "(II)V"⟩, 35) := ⟨⟨by decide +kernel, by decide +kernel⟩, List.mem_of_getElem? (i := 891) (by decide +kernel), List.mem_of_getElem? (i := 1141) (by decide +kernel), List.mem_of_getElem? (i := 1142) (by decide +kernel)⟩
theorem lw_p49 : lw_okq (⟨"PowerBondsModel", "canBe", "(I)Z"⟩, 35) := ⟨⟨by decide +kernel, by decide +kernel⟩, List.mem_of_getElem? (i := 891) (by decide +kernel), List.mem_of_getElem? (i := 1154) (by decide +kernel), List.mem_of_getElem? (i := 1155) (by decide +kernel)⟩
theorem lw_p50 : lw_okq (⟨"PowerBondsModel", "settles", "(II)I"⟩, 35) := ⟨⟨by decide +kernel, by decide +kernel⟩, List.mem_of_getElem? (i := 891) (by decide +kernel), List.mem_of_getElem? (i := 1158) (by decide +kernel), List.mem_of_getElem? (i := 1159) (by decide +kernel)⟩
theorem lw_p51 : lw_okq (⟨"PowerBondsModel", "summing", "(I)I"⟩, 35) := ⟨⟨by decide +kernel, by decide +kernel⟩, List.mem_of_getElem? (i := 891) (by decide +kernel), List.mem_of_getElem? (i := 1162) (by decide +kernel), List.mem_of_getElem? (i := 1163) (by decide +kernel)⟩
theorem lw_p52 : lw_okq (⟨"PowerBondsModel", "sums", "(II)Z"⟩, 35) := ⟨⟨by decide +kernel, by decide +kernel⟩, List.mem_of_getElem? (i := 891) (by decide +kernel), List.mem_of_getElem? (i := 1166) (by decide +kernel), List.mem_of_getElem? (i := 1167) (by decide +kernel)⟩
theorem lw_p53 : lw_okq (⟨"PowerBondsModel", "tied", "(I)I"⟩, 35) := ⟨⟨by decide +kernel, by decide +kernel⟩, List.mem_of_getElem? (i := 891) (by decide +kernel), List.mem_of_getElem? (i := 1171) (by decide +kernel), List.mem_of_getElem? (i := 1172) (by decide +kernel)⟩
theorem lw_p54 : lw_okq (⟨"PowerBondsModel", "setAside", "([I[I)V"⟩, 35) := ⟨⟨by decide +kernel, by decide +kernel⟩, List.mem_of_getElem? (i := 891) (by decide +kernel), List.mem_of_getElem? (i := 1185) (by decide +kernel), List.mem_of_getElem? (i := 1186) (by decide +kernel)⟩
theorem lw_p55 : lw_okq (⟨"PowerBondsModel", "oneStep", "()I"⟩, 35) := ⟨⟨by decide +kernel, by decide +kernel⟩, List.mem_of_getElem? (i := 891) (by decide +kernel), List.mem_of_getElem? (i := 1189) (by decide +kernel), List.mem_of_getElem? (i := 1190) (by decide +kernel)⟩
theorem lw_p56 : lw_okq (⟨"PowerBondsModel", "gives", "(I)V"⟩, 35) := ⟨⟨by decide +kernel, by decide +kernel⟩, List.mem_of_getElem? (i := 891) (by decide +kernel), List.mem_of_getElem? (i := 1193) (by decide +kernel), List.mem_of_getElem? (i := 1194) (by decide +kernel)⟩
theorem lw_p57 : lw_okq (⟨"PowerBondsModel", "counts", "(I)I"⟩, 35) := ⟨⟨by decide +kernel, by decide +kernel⟩, List.mem_of_getElem? (i := 891) (by decide +kernel), List.mem_of_getElem? (i := 1197) (by decide +kernel), List.mem_of_getElem? (i := 1198) (by decide +kernel)⟩
theorem lw_p58 : lw_okq (⟨"PowerBondsModel", "textAt", "(I)I"⟩, 35) := ⟨⟨by decide +kernel, by decide +kernel⟩, List.mem_of_getElem? (i := 891) (by decide +kernel), List.mem_of_getElem? (i := 1201) (by decide +kernel), List.mem_of_getElem? (i := 1202) (by decide +kernel)⟩
theorem lw_p59 : lw_okq (⟨"PowerBondsModel", "worked", "(I)I"⟩, 35) := ⟨⟨by decide +kernel, by decide +kernel⟩, List.mem_of_getElem? (i := 891) (by decide +kernel), List.mem_of_getElem? (i := 1205) (by decide +kernel), List.mem_of_getElem? (i := 1206) (by decide +kernel)⟩
theorem lw_p60 : lw_okq (⟨"PowerBondsModel", "parse", "()I"⟩, 35) := ⟨⟨by decide +kernel, by decide +kernel⟩, List.mem_of_getElem? (i := 891) (by decide +kernel), List.mem_of_getElem? (i := 1224) (by decide +kernel), List.mem_of_getElem? (i := 1225) (by decide +kernel)⟩
theorem lw_p61 : lw_okq (⟨"PowerBondsModel", "next", "()V"⟩, 35) := ⟨⟨by decide +kernel, by decide +kernel⟩, List.mem_of_getElem? (i := 891) (by decide +kernel), List.mem_of_getElem? (i := 1228) (by decide +kernel), List.mem_of_getElem? (i := 1229) (by decide +kernel)⟩
theorem lw_p62 : lw_okq (⟨"PowerBondsModel", "isLetter", "(I)Z"⟩, 35) := ⟨⟨by decide +kernel, by decide +kernel⟩, List.mem_of_getElem? (i := 891) (by decide +kernel), List.mem_of_getElem? (i := 1232) (by decide +kernel), List.mem_of_getElem? (i := 1233) (by decide +kernel)⟩
theorem lw_p63 : lw_okq (⟨"PowerBondsModel", "isDigit", "(I)Z"⟩, 35) := ⟨⟨by decide +kernel, by decide +kernel⟩, List.mem_of_getElem? (i := 891) (by decide +kernel), List.mem_of_getElem? (i := 1238) (by decide +kernel), List.mem_of_getElem? (i := 1239) (by decide +kernel)⟩
def lw_privs_4 : List (MethodName × Nat) := [(⟨"PowerBondsModel", "swap", "(II)V"⟩, 35), (⟨"PowerBondsModel", "canBe", "(I)Z"⟩, 35), (⟨"PowerBondsModel", "settles", "(II)I"⟩, 35), (⟨"PowerBondsModel", "summing", "(I)I"⟩, 35), (⟨"PowerBondsModel", "sums", "(II)Z"⟩, 35), (⟨"PowerBondsModel", "tied", "(I)I"⟩, 35), (⟨"PowerBondsModel", "setAside", "([I[I)V"⟩, 35), (⟨"PowerBondsModel", "oneStep", "()I"⟩, 35), (⟨"PowerBondsModel", "gives", "(I)V"⟩, 35), (⟨"PowerBondsModel", "counts", "(I)I"⟩, 35), (⟨"PowerBondsModel", "textAt", "(I)I"⟩, 35), (⟨"PowerBondsModel", "worked", "(I)I"⟩, 35), (⟨"PowerBondsModel", "parse", "()I"⟩, 35), (⟨"PowerBondsModel", "next", "()V"⟩, 35), (⟨"PowerBondsModel", "isLetter", "(I)Z"⟩, 35), (⟨"PowerBondsModel", "isDigit", "(I)Z"⟩, 35)]
theorem lw_r4 : ∀ q ∈ lw_privs_4, lw_okq q := List.forall_mem_cons.mpr ⟨lw_p48, List.forall_mem_cons.mpr ⟨lw_p49, List.forall_mem_cons.mpr ⟨lw_p50, List.forall_mem_cons.mpr ⟨lw_p51, List.forall_mem_cons.mpr ⟨lw_p52, List.forall_mem_cons.mpr ⟨lw_p53, List.forall_mem_cons.mpr ⟨lw_p54, List.forall_mem_cons.mpr ⟨lw_p55, List.forall_mem_cons.mpr ⟨lw_p56, List.forall_mem_cons.mpr ⟨lw_p57, List.forall_mem_cons.mpr ⟨lw_p58, List.forall_mem_cons.mpr ⟨lw_p59, List.forall_mem_cons.mpr ⟨lw_p60, List.forall_mem_cons.mpr ⟨lw_p61, List.forall_mem_cons.mpr ⟨lw_p62, List.forall_mem_cons.mpr ⟨lw_p63, fun _ h => absurd h List.not_mem_nil⟩⟩⟩⟩⟩⟩⟩⟩⟩⟩⟩⟩⟩⟩⟩⟩
theorem lw_p64 : lw_okq (⟨"PowerBondsModel", "key", "()I"⟩, 35) := ⟨⟨by decide +kernel, by decide +kernel⟩, List.mem_of_getElem? (i := 891) (by decide +kernel), List.mem_of_getElem? (i := 1244) (by decide +kernel), List.mem_of_getElem? (i := 1245) (by decide +kernel)⟩
theorem lw_p65 : lw_okq (⟨"PowerBondsModel", "isWordAt", "(IIII)Z"⟩, 35) := ⟨⟨by decide +kernel, by decide +kernel⟩, List.mem_of_getElem? (i := 891) (by decide +kernel), List.mem_of_getElem? (i := 1248) (by decide +kernel), List.mem_of_getElem? (i := 1249) (by decide +kernel)⟩
theorem lw_p66 : lw_okq (⟨"PowerBondsModel", "either", "(I)Z"⟩, 35) := ⟨⟨by decide +kernel, by decide +kernel⟩, List.mem_of_getElem? (i := 891) (by decide +kernel), List.mem_of_getElem? (i := 1252) (by decide +kernel), List.mem_of_getElem? (i := 1253) (by decide +kernel)⟩
theorem lw_p67 : lw_okq (⟨"PowerBondsModel", "both", "(I)Z"⟩, 35) := ⟨⟨by decide +kernel, by decide +kernel⟩, List.mem_of_getElem? (i := 891) (by decide +kernel), List.mem_of_getElem? (i := 1256) (by decide +kernel), List.mem_of_getElem? (i := 1257) (by decide +kernel)⟩
theorem lw_p68 : lw_okq (⟨"PowerBondsModel", "test", "(I)Z"⟩, 35) := ⟨⟨by decide +kernel, by decide +kernel⟩, List.mem_of_getElem? (i := 891) (by decide +kernel), List.mem_of_getElem? (i := 1260) (by decide +kernel), List.mem_of_getElem? (i := 1261) (by decide +kernel)⟩
theorem lw_p69 : lw_okq (⟨"PowerBondsModel", "sum", "(I)Z"⟩, 35) := ⟨⟨by decide +kernel, by decide +kernel⟩, List.mem_of_getElem? (i := 891) (by decide +kernel), List.mem_of_getElem? (i := 1264) (by decide +kernel), List.mem_of_getElem? (i := 1265) (by decide +kernel)⟩
theorem lw_p70 : lw_okq (⟨"PowerBondsModel", "term", "(I)Z"⟩, 35) := ⟨⟨by decide +kernel, by decide +kernel⟩, List.mem_of_getElem? (i := 891) (by decide +kernel), List.mem_of_getElem? (i := 1268) (by decide +kernel), List.mem_of_getElem? (i := 1269) (by decide +kernel)⟩
theorem lw_p71 : lw_okq (⟨"PowerBondsModel", "part0", "(I)Z"⟩, 35) := ⟨⟨by decide +kernel, by decide +kernel⟩, List.mem_of_getElem? (i := 891) (by decide +kernel), List.mem_of_getElem? (i := 1272) (by decide +kernel), List.mem_of_getElem? (i := 1273) (by decide +kernel)⟩
theorem lw_p72 : lw_okq (⟨"PowerBondsModel", "step", "(II)V"⟩, 35) := ⟨⟨by decide +kernel, by decide +kernel⟩, List.mem_of_getElem? (i := 891) (by decide +kernel), List.mem_of_getElem? (i := 1276) (by decide +kernel), List.mem_of_getElem? (i := 1277) (by decide +kernel)⟩
theorem lw_p73 : lw_okq (⟨"PowerBondsModel", "isSign", "(I)Z"⟩, 35) := ⟨⟨by decide +kernel, by decide +kernel⟩, List.mem_of_getElem? (i := 891) (by decide +kernel), List.mem_of_getElem? (i := 1283) (by decide +kernel), List.mem_of_getElem? (i := 1284) (by decide +kernel)⟩
theorem lw_p74 : lw_okq (⟨"PowerBondsModel", "isText", "(I)Z"⟩, 35) := ⟨⟨by decide +kernel, by decide +kernel⟩, List.mem_of_getElem? (i := 891) (by decide +kernel), List.mem_of_getElem? (i := 1291) (by decide +kernel), List.mem_of_getElem? (i := 1292) (by decide +kernel)⟩
theorem lw_p75 : lw_okq (⟨"PowerBondsModel", "findWays", "(I)V"⟩, 35) := ⟨⟨by decide +kernel, by decide +kernel⟩, List.mem_of_getElem? (i := 891) (by decide +kernel), List.mem_of_getElem? (i := 1328) (by decide +kernel), List.mem_of_getElem? (i := 1329) (by decide +kernel)⟩
theorem lw_p76 : lw_okq (⟨"PowerBondsModel", "holds", "()I"⟩, 35) := ⟨⟨by decide +kernel, by decide +kernel⟩, List.mem_of_getElem? (i := 891) (by decide +kernel), List.mem_of_getElem? (i := 1387) (by decide +kernel), List.mem_of_getElem? (i := 1388) (by decide +kernel)⟩
theorem lw_p77 : lw_okq (⟨"PowerBondsModel", "stores", "()I"⟩, 35) := ⟨⟨by decide +kernel, by decide +kernel⟩, List.mem_of_getElem? (i := 891) (by decide +kernel), List.mem_of_getElem? (i := 1403) (by decide +kernel), List.mem_of_getElem? (i := 1404) (by decide +kernel)⟩
def lw_privs_5 : List (MethodName × Nat) := [(⟨"PowerBondsModel", "key", "()I"⟩, 35), (⟨"PowerBondsModel", "isWordAt", "(IIII)Z"⟩, 35), (⟨"PowerBondsModel", "either", "(I)Z"⟩, 35), (⟨"PowerBondsModel", "both", "(I)Z"⟩, 35), (⟨"PowerBondsModel", "test", "(I)Z"⟩, 35), (⟨"PowerBondsModel", "sum", "(I)Z"⟩, 35), (⟨"PowerBondsModel", "term", "(I)Z"⟩, 35), (⟨"PowerBondsModel", "part0", "(I)Z"⟩, 35), (⟨"PowerBondsModel", "step", "(II)V"⟩, 35), (⟨"PowerBondsModel", "isSign", "(I)Z"⟩, 35), (⟨"PowerBondsModel", "isText", "(I)Z"⟩, 35), (⟨"PowerBondsModel", "findWays", "(I)V"⟩, 35), (⟨"PowerBondsModel", "holds", "()I"⟩, 35), (⟨"PowerBondsModel", "stores", "()I"⟩, 35)]
theorem lw_r5 : ∀ q ∈ lw_privs_5, lw_okq q := List.forall_mem_cons.mpr ⟨lw_p64, List.forall_mem_cons.mpr ⟨lw_p65, List.forall_mem_cons.mpr ⟨lw_p66, List.forall_mem_cons.mpr ⟨lw_p67, List.forall_mem_cons.mpr ⟨lw_p68, List.forall_mem_cons.mpr ⟨lw_p69, List.forall_mem_cons.mpr ⟨lw_p70, List.forall_mem_cons.mpr ⟨lw_p71, List.forall_mem_cons.mpr ⟨lw_p72, List.forall_mem_cons.mpr ⟨lw_p73, List.forall_mem_cons.mpr ⟨lw_p74, List.forall_mem_cons.mpr ⟨lw_p75, List.forall_mem_cons.mpr ⟨lw_p76, List.forall_mem_cons.mpr ⟨lw_p77, fun _ h => absurd h List.not_mem_nil⟩⟩⟩⟩⟩⟩⟩⟩⟩⟩⟩⟩⟩⟩
def lw_privs : List (MethodName × Nat) := lw_privs_1 ++ (lw_privs_2 ++ (lw_privs_3 ++ (lw_privs_4 ++ (lw_privs_5))))
def lw_tbl : List Cond := k2_sels lw_privs ++ tables_1
theorem lw_privs_ok : ∀ q ∈ lw_privs, lw_okq q := by
  show ∀ q ∈ lw_privs_1 ++ (lw_privs_2 ++ (lw_privs_3 ++ (lw_privs_4 ++ (lw_privs_5)))), lw_okq q
  exact List.forall_mem_append.mpr ⟨lw_r1, List.forall_mem_append.mpr ⟨lw_r2, List.forall_mem_append.mpr ⟨lw_r3, List.forall_mem_append.mpr ⟨lw_r4, lw_r5⟩⟩⟩⟩
end
section
def RX0 : String := "PowerBonds$Answer"
def TX0 : u_T := fun k => match k with
  | 0 => ("PowerBonds$Answer", "push", "[I", true)
  | 1 => ("PowerBonds$Answer", "pace", "[I", true)
  | 2 => ("PowerBonds$Answer", "rows", "[[J", true)
  | 3 => ("PowerBonds$Answer", "rowCount", "I", false)
  | _ => ("PowerBonds$Answer", "width", "I", false)
def tyX0 : Nat → FieldType := fun k => match k with
  | 0 => .array .int
  | 1 => .array .int
  | 2 => .array (.array .long)
  | 3 => .int
  | _ => .int
theorem nmX0 : ∀ a, a < 5 → ∀ b, b < 5 → a ≠ b → (TX0 a).2.1 ≠ (TX0 b).2.1 := by decide +kernel
theorem tyX0_ok : ∀ k, k < 5 → parseFieldDescriptor (TX0 k).2.2.1 = some (tyX0 k) := by decide +kernel
def RX1 : String := "PowerBonds$LineUps"
def TX1 : u_T := fun k => match k with
  | 0 => ("PowerBonds$LineUps", "coming", "[I", true)
  | 1 => ("PowerBonds$LineUps", "going", "[I", true)
  | 2 => ("PowerBonds$LineUps", "possible", "I", false)
  | 3 => ("PowerBonds$LineUps", "best", "I", false)
  | _ => ("PowerBonds$LineUps", "bestSumming", "I", false)
def tyX1 : Nat → FieldType := fun k => match k with
  | 0 => .array .int
  | 1 => .array .int
  | 2 => .int
  | 3 => .int
  | _ => .int
theorem nmX1 : ∀ a, a < 5 → ∀ b, b < 5 → a ≠ b → (TX1 a).2.1 ≠ (TX1 b).2.1 := by decide +kernel
theorem tyX1_ok : ∀ k, k < 5 → parseFieldDescriptor (TX1 k).2.2.1 = some (tyX1 k) := by decide +kernel
def RX2 : String := "PowerBonds$Machine"
def TX2 : u_T := fun k => match k with
  | 0 => ("PowerBonds$Machine", "parts", "[LPowerBonds$Part;", true)
  | 1 => ("PowerBonds$Machine", "from", "[I", true)
  | 2 => ("PowerBonds$Machine", "to", "[I", true)
  | 3 => ("PowerBonds$Machine", "texts", "[LPowerBonds$Text;", true)
  | 4 => ("PowerBonds$Machine", "partCount", "I", false)
  | 5 => ("PowerBonds$Machine", "bondCount", "I", false)
  | 6 => ("PowerBonds$Machine", "textCount", "I", false)
  | _ => ("PowerBonds$Machine", "step", "I", false)
def tyX2 : Nat → FieldType := fun k => match k with
  | 0 => .array (.object "PowerBonds$Part")
  | 1 => .array .int
  | 2 => .array .int
  | 3 => .array (.object "PowerBonds$Text")
  | 4 => .int
  | 5 => .int
  | 6 => .int
  | _ => .int
theorem nmX2 : ∀ a, a < 8 → ∀ b, b < 8 → a ≠ b → (TX2 a).2.1 ≠ (TX2 b).2.1 := by decide +kernel
theorem tyX2_ok : ∀ k, k < 8 → parseFieldDescriptor (TX2 k).2.2.1 = some (tyX2 k) := by decide +kernel
def RX3 : String := "PowerBonds$Part"
def TX3 : u_T := fun k => match k with
  | 0 => ("PowerBonds$Part", "kind", "I", false)
  | 1 => ("PowerBonds$Part", "sort", "I", false)
  | 2 => ("PowerBonds$Part", "over", "I", false)
  | 3 => ("PowerBonds$Part", "under", "I", false)
  | _ => ("PowerBonds$Part", "hold", "I", false)
def tyX3 : Nat → FieldType := fun k => match k with
  | 0 => .int
  | 1 => .int
  | 2 => .int
  | 3 => .int
  | _ => .int
theorem nmX3 : ∀ a, a < 5 → ∀ b, b < 5 → a ≠ b → (TX3 a).2.1 ≠ (TX3 b).2.1 := by decide +kernel
theorem tyX3_ok : ∀ k, k < 5 → parseFieldDescriptor (TX3 k).2.2.1 = some (tyX3 k) := by decide +kernel
def RX4 : String := "PowerBonds$Sheet"
def TX4 : u_T := fun k => match k with
  | 0 => ("PowerBonds$Sheet", "sort", "I", false)
  | 1 => ("PowerBonds$Sheet", "size", "I", false)
  | _ => ("PowerBonds$Sheet", "places", "[I", true)
def tyX4 : Nat → FieldType := fun k => match k with
  | 0 => .int
  | 1 => .int
  | _ => .array .int
theorem nmX4 : ∀ a, a < 3 → ∀ b, b < 3 → a ≠ b → (TX4 a).2.1 ≠ (TX4 b).2.1 := by decide +kernel
theorem tyX4_ok : ∀ k, k < 3 → parseFieldDescriptor (TX4 k).2.2.1 = some (tyX4 k) := by decide +kernel
def RX5 : String := "PowerBonds$Slot"
def TX5 : u_T := fun k => match k with
  | 0 => ("PowerBonds$Slot", "thing", "I", false)
  | 1 => ("PowerBonds$Slot", "number", "I", false)
  | 2 => ("PowerBonds$Slot", "heldPart", "LPowerBonds$Part;", true)
  | _ => ("PowerBonds$Slot", "heldSheet", "LPowerBonds$Sheet;", true)
def tyX5 : Nat → FieldType := fun k => match k with
  | 0 => .int
  | 1 => .int
  | 2 => .object "PowerBonds$Part"
  | _ => .object "PowerBonds$Sheet"
theorem nmX5 : ∀ a, a < 4 → ∀ b, b < 4 → a ≠ b → (TX5 a).2.1 ≠ (TX5 b).2.1 := by decide +kernel
theorem tyX5_ok : ∀ k, k < 4 → parseFieldDescriptor (TX5 k).2.2.1 = some (tyX5 k) := by decide +kernel
def RX6 : String := "PowerBonds$Tape"
def TX6 : u_T := fun k => match k with
  | 0 => ("PowerBonds$Tape", "size", "I", false)
  | 1 => ("PowerBonds$Tape", "place", "I", false)
  | 2 => ("PowerBonds$Tape", "bytes", "[B", true)
  | 3 => ("PowerBonds$Tape", "behind", "I", false)
  | 4 => ("PowerBonds$Tape", "sort", "I", false)
  | 5 => ("PowerBonds$Tape", "key", "I", false)
  | 6 => ("PowerBonds$Tape", "code", "[I", true)
  | 7 => ("PowerBonds$Tape", "codeSize", "I", false)
  | _ => ("PowerBonds$Tape", "operands", "I", false)
def tyX6 : Nat → FieldType := fun k => match k with
  | 0 => .int
  | 1 => .int
  | 2 => .array .byte
  | 3 => .int
  | 4 => .int
  | 5 => .int
  | 6 => .array .int
  | 7 => .int
  | _ => .int
theorem nmX6 : ∀ a, a < 9 → ∀ b, b < 9 → a ≠ b → (TX6 a).2.1 ≠ (TX6 b).2.1 := by decide +kernel
theorem tyX6_ok : ∀ k, k < 9 → parseFieldDescriptor (TX6 k).2.2.1 = some (tyX6 k) := by decide +kernel
def RX7 : String := "PowerBonds$Text"
def TX7 : u_T := fun k => match k with
  | 0 => ("PowerBonds$Text", "key", "I", true)
  | 1 => ("PowerBonds$Text", "target", "I", true)
  | 2 => ("PowerBonds$Text", "operands", "I", true)
  | _ => ("PowerBonds$Text", "code", "[I", true)
def tyX7 : Nat → FieldType := fun k => match k with
  | 0 => .int
  | 1 => .int
  | 2 => .int
  | _ => .array .int
theorem nmX7 : ∀ a, a < 4 → ∀ b, b < 4 → a ≠ b → (TX7 a).2.1 ≠ (TX7 b).2.1 := by decide +kernel
theorem tyX7_ok : ∀ k, k < 4 → parseFieldDescriptor (TX7 k).2.2.1 = some (tyX7 k) := by decide +kernel
def RX8 : String := "PowerBonds"
def TX8 : u_T := fun k => match k with
  | 0 => ("PowerBonds", "machine", "LPowerBonds$Machine;", true)
  | 1 => ("PowerBonds", "image", "LPowerBonds$Machine;", true)
  | 2 => ("PowerBonds", "trial", "LPowerBonds$Machine;", true)
  | 3 => ("PowerBonds", "answer", "LPowerBonds$Answer;", true)
  | 4 => ("PowerBonds", "otherAnswer", "LPowerBonds$Answer;", true)
  | 5 => ("PowerBonds", "lineUps", "LPowerBonds$LineUps;", true)
  | 6 => ("PowerBonds", "tape", "LPowerBonds$Tape;", true)
  | 7 => ("PowerBonds", "desk", "[I", true)
  | 8 => ("PowerBonds", "waiting", "[I", true)
  | 9 => ("PowerBonds", "sheets", "[LPowerBonds$Sheet;", true)
  | 10 => ("PowerBonds", "slots", "[LPowerBonds$Slot;", true)
  | 11 => ("PowerBonds", "waitingCount", "I", false)
  | _ => ("PowerBonds", "imageKept", "Z", false)
def tyX8 : Nat → FieldType := fun k => match k with
  | 0 => .object "PowerBonds$Machine"
  | 1 => .object "PowerBonds$Machine"
  | 2 => .object "PowerBonds$Machine"
  | 3 => .object "PowerBonds$Answer"
  | 4 => .object "PowerBonds$Answer"
  | 5 => .object "PowerBonds$LineUps"
  | 6 => .object "PowerBonds$Tape"
  | 7 => .array .int
  | 8 => .array .int
  | 9 => .array (.object "PowerBonds$Sheet")
  | 10 => .array (.object "PowerBonds$Slot")
  | 11 => .int
  | _ => .boolean
theorem nmX8 : ∀ a, a < 13 → ∀ b, b < 13 → a ≠ b → (TX8 a).2.1 ≠ (TX8 b).2.1 := by decide +kernel
theorem tyX8_ok : ∀ k, k < 13 → parseFieldDescriptor (TX8 k).2.2.1 = some (tyX8 k) := by decide +kernel
def RX9 : String := "PowerBondsModel"
def TX9 : u_T := fun k => match k with
  | 0 => ("PowerBondsModel", "s", "[I", true)
  | 1 => ("PowerBondsModel", "image", "[I", true)
  | 2 => ("PowerBondsModel", "aside", "[I", true)
  | 3 => ("PowerBondsModel", "hasImage", "Z", false)
  | 4 => ("PowerBondsModel", "tSort", "[I", true)
  | 5 => ("PowerBondsModel", "tSize", "[I", true)
  | 6 => ("PowerBondsModel", "tNumber", "[I", true)
  | 7 => ("PowerBondsModel", "held", "[I", true)
  | 8 => ("PowerBondsModel", "heldNumber", "[I", true)
  | 9 => ("PowerBondsModel", "heldShare", "[I", true)
  | 10 => ("PowerBondsModel", "heldSize", "[I", true)
  | 11 => ("PowerBondsModel", "heldRow", "[I", true)
  | 12 => ("PowerBondsModel", "table", "[J", true)
  | 13 => ("PowerBondsModel", "lines", "I", false)
  | 14 => ("PowerBondsModel", "answer", "[J", true)
  | 15 => ("PowerBondsModel", "tape", "[I", true)
  | 16 => ("PowerBondsModel", "taped", "I", false)
  | 17 => ("PowerBondsModel", "begin", "I", false)
  | 18 => ("PowerBondsModel", "behind", "I", false)
  | 19 => ("PowerBondsModel", "token", "I", false)
  | 20 => ("PowerBondsModel", "number", "I", false)
  | 21 => ("PowerBondsModel", "letter", "I", false)
  | 22 => ("PowerBondsModel", "deep", "I", false)
  | 23 => ("PowerBondsModel", "turned", "I", false)
  | 24 => ("PowerBondsModel", "laid", "I", false)
  | 25 => ("PowerBondsModel", "laidAt", "I", false)
  | 26 => ("PowerBondsModel", "said", "I", false)
  | 27 => ("PowerBondsModel", "named", "[I", true)
  | 28 => ("PowerBondsModel", "pile", "[I", true)
  | 29 => ("PowerBondsModel", "wasAnswer", "[J", true)
  | 30 => ("PowerBondsModel", "steps", "[I", true)
  | 31 => ("PowerBondsModel", "carried", "[I", true)
  | 32 => ("PowerBondsModel", "waits", "[I", true)
  | 33 => ("PowerBondsModel", "waiting", "I", false)
  | _ => ("PowerBondsModel", "row", "[I", true)
def tyX9 : Nat → FieldType := fun k => match k with
  | 0 => .array .int
  | 1 => .array .int
  | 2 => .array .int
  | 3 => .boolean
  | 4 => .array .int
  | 5 => .array .int
  | 6 => .array .int
  | 7 => .array .int
  | 8 => .array .int
  | 9 => .array .int
  | 10 => .array .int
  | 11 => .array .int
  | 12 => .array .long
  | 13 => .int
  | 14 => .array .long
  | 15 => .array .int
  | 16 => .int
  | 17 => .int
  | 18 => .int
  | 19 => .int
  | 20 => .int
  | 21 => .int
  | 22 => .int
  | 23 => .int
  | 24 => .int
  | 25 => .int
  | 26 => .int
  | 27 => .array .int
  | 28 => .array .int
  | 29 => .array .long
  | 30 => .array .int
  | 31 => .array .int
  | 32 => .array .int
  | 33 => .int
  | _ => .array .int
theorem nmX9 : ∀ a, a < 35 → ∀ b, b < 35 → a ≠ b → (TX9 a).2.1 ≠ (TX9 b).2.1 := by decide +kernel
theorem tyX9_ok : ∀ k, k < 35 → parseFieldDescriptor (TX9 k).2.2.1 = some (tyX9 k) := by decide +kernel
/-- a method: its name, its code, its locals, its answer -/
abbrev Mt : Type := MethodName × ByteArray × Nat × Option FieldType
abbrev M_An_init : Mt := (⟨"PowerBonds$Answer", "<init>", "()V"⟩, prog_2_method_1_code, 1, none)
abbrev M_An_solve : Mt := (⟨"PowerBonds$Answer", "solve", "(LPowerBonds$Machine;)I"⟩, prog_2_method_2_code, 4, (some .int))
abbrev M_An_column : Mt := (⟨"PowerBonds$Answer", "column", "(II)I"⟩, prog_2_method_3_code, 2, (some .int))
abbrev M_An_writeLaws : Mt := (⟨"PowerBonds$Answer", "writeLaws", "(LPowerBonds$Machine;)V"⟩, prog_2_method_4_code, 5, none)
abbrev M_An_newRow : Mt := (⟨"PowerBonds$Answer", "newRow", "()[J"⟩, prog_2_method_5_code, 2, (some (.array .long)))
abbrev M_An_writeTimes : Mt := (⟨"PowerBonds$Answer", "writeTimes", "(III)V"⟩, prog_2_method_6_code, 5, none)
abbrev M_An_writeEnd : Mt := (⟨"PowerBonds$Answer", "writeEnd", "(LPowerBonds$Part;I)V"⟩, prog_2_method_7_code, 5, none)
abbrev M_An_writeTurn : Mt := (⟨"PowerBonds$Answer", "writeTurn", "(LPowerBonds$Part;II)V"⟩, prog_2_method_8_code, 5, none)
abbrev M_An_writeJoin : Mt := (⟨"PowerBonds$Answer", "writeJoin", "(LPowerBonds$Machine;II)V"⟩, prog_2_method_9_code, 8, none)
abbrev M_An_reduce : Mt := (⟨"PowerBonds$Answer", "reduce", "()I"⟩, prog_2_method_10_code, 5, (some .int))
abbrev M_An_rowWith : Mt := (⟨"PowerBonds$Answer", "rowWith", "(II)I"⟩, prog_2_method_11_code, 4, (some .int))
abbrev M_An_scale : Mt := (⟨"PowerBonds$Answer", "scale", "([JI)V"⟩, prog_2_method_12_code, 6, none)
abbrev M_An_clearOthers : Mt := (⟨"PowerBonds$Answer", "clearOthers", "(II)V"⟩, prog_2_method_13_code, 7, none)
abbrev M_Lu_init : Mt := (⟨"PowerBonds$LineUps", "<init>", "()V"⟩, prog_3_method_1_code, 1, none)
abbrev M_Lu_lookAt : Mt := (⟨"PowerBonds$LineUps", "lookAt", "(LPowerBonds$Machine;)V"⟩, prog_3_method_2_code, 3, none)
abbrev M_Lu_survey : Mt := (⟨"PowerBonds$LineUps", "survey", "(LPowerBonds$Machine;)V"⟩, prog_3_method_3_code, 6, none)
abbrev M_Lu_weigh : Mt := (⟨"PowerBonds$LineUps", "weigh", "(LPowerBonds$Machine;I)V"⟩, prog_3_method_4_code, 5, none)
abbrev M_Lu_nextWithout : Mt := (⟨"PowerBonds$LineUps", "nextWithout", "(II)I"⟩, prog_3_method_5_code, 5, (some .int))
abbrev M_Lu_firstAgainst : Mt := (⟨"PowerBonds$LineUps", "firstAgainst", "(LPowerBonds$Machine;I)I"⟩, prog_3_method_6_code, 4, (some .int))
abbrev M_Lu_allows : Mt := (⟨"PowerBonds$LineUps", "allows", "(LPowerBonds$Part;II)Z"⟩, prog_3_method_7_code, 6, (some .boolean))
abbrev M_Lu_settledBy : Mt := (⟨"PowerBonds$LineUps", "settledBy", "(II)I"⟩, prog_3_method_8_code, 3, (some .int))
abbrev M_Lu_sums : Mt := (⟨"PowerBonds$LineUps", "sums", "(LPowerBonds$Machine;II)Z"⟩, prog_3_method_9_code, 4, (some .boolean))
abbrev M_Lu_tiedStores : Mt := (⟨"PowerBonds$LineUps", "tiedStores", "(LPowerBonds$Machine;)I"⟩, prog_3_method_10_code, 4, (some .int))
abbrev M_Ma_init : Mt := (⟨"PowerBonds$Machine", "<init>", "()V"⟩, prog_4_method_1_code, 2, none)
abbrev M_Ma_takeFrom : Mt := (⟨"PowerBonds$Machine", "takeFrom", "(LPowerBonds$Machine;)V"⟩, prog_4_method_2_code, 3, none)
abbrev M_Ma_hasPart : Mt := (⟨"PowerBonds$Machine", "hasPart", "(I)Z"⟩, prog_4_method_3_code, 2, (some .boolean))
abbrev M_Ma_hasBond : Mt := (⟨"PowerBonds$Machine", "hasBond", "(I)Z"⟩, prog_4_method_4_code, 2, (some .boolean))
abbrev M_Ma_dropBond : Mt := (⟨"PowerBonds$Machine", "dropBond", "(I)V"⟩, prog_4_method_5_code, 3, none)
abbrev M_Ma_endsOf : Mt := (⟨"PowerBonds$Machine", "endsOf", "(I)I"⟩, prog_4_method_6_code, 4, (some .int))
abbrev M_Ma_nextBondOf : Mt := (⟨"PowerBonds$Machine", "nextBondOf", "(II)I"⟩, prog_4_method_7_code, 4, (some .int))
abbrev M_Ma_isWhole : Mt := (⟨"PowerBonds$Machine", "isWhole", "()Z"⟩, prog_4_method_8_code, 2, (some .boolean))
abbrev M_Ma_stores : Mt := (⟨"PowerBonds$Machine", "stores", "()I"⟩, prog_4_method_9_code, 3, (some .int))
abbrev M_Ma_storesTogether : Mt := (⟨"PowerBonds$Machine", "storesTogether", "()I"⟩, prog_4_method_10_code, 3, (some .int))
abbrev M_Ma_textFor : Mt := (⟨"PowerBonds$Machine", "textFor", "(II)I"⟩, prog_4_method_11_code, 4, (some .int))
abbrev M_Ma_textGives : Mt := (⟨"PowerBonds$Machine", "textGives", "(I[III)I"⟩, prog_4_method_12_code, 6, (some .int))
abbrev M_Ma_followText : Mt := (⟨"PowerBonds$Machine", "followText", "(I[I)V"⟩, prog_4_method_13_code, 4, none)
abbrev M_Ma_doStep : Mt := (⟨"PowerBonds$Machine", "doStep", "(LPowerBonds$Answer;[I)V"⟩, prog_4_method_14_code, 6, none)
abbrev M_Ma_withNeighbours : Mt := (⟨"PowerBonds$Machine", "withNeighbours", "(I)I"⟩, prog_4_method_15_code, 4, (some .int))
abbrev M_Ma_pieces : Mt := (⟨"PowerBonds$Machine", "pieces", "()I"⟩, prog_4_method_16_code, 5, (some .int))
abbrev M_Pa_init : Mt := (⟨"PowerBonds$Part", "<init>", "()V"⟩, prog_5_method_1_code, 1, none)
abbrev M_Pa_become : Mt := (⟨"PowerBonds$Part", "become", "(III)V"⟩, prog_5_method_2_code, 4, none)
abbrev M_Pa_takeShare : Mt := (⟨"PowerBonds$Part", "takeShare", "(I)V"⟩, prog_5_method_3_code, 2, none)
abbrev M_Pa_takeFrom : Mt := (⟨"PowerBonds$Part", "takeFrom", "(LPowerBonds$Part;)V"⟩, prog_5_method_4_code, 2, none)
abbrev M_Pa_shareCode : Mt := (⟨"PowerBonds$Part", "shareCode", "()I"⟩, prog_5_method_5_code, 1, (some .int))
abbrev M_Pa_shareWorth : Mt := (⟨"PowerBonds$Part", "shareWorth", "()I"⟩, prog_5_method_6_code, 1, (some .int))
abbrev M_Pa_isOf : Mt := (⟨"PowerBonds$Part", "isOf", "(I)Z"⟩, prog_5_method_7_code, 4, (some .boolean))
abbrev M_Pa_wants : Mt := (⟨"PowerBonds$Part", "wants", "(I)Z"⟩, prog_5_method_8_code, 2, (some .boolean))
abbrev M_Pa_turnToDual : Mt := (⟨"PowerBonds$Part", "turnToDual", "()Z"⟩, prog_5_method_9_code, 2, (some .boolean))
abbrev M_Sh_init : Mt := (⟨"PowerBonds$Sheet", "<init>", "()V"⟩, prog_6_method_1_code, 1, none)
abbrev M_Sh_become : Mt := (⟨"PowerBonds$Sheet", "become", "(II)V"⟩, prog_6_method_2_code, 3, none)
abbrev M_Sh_takeFrom : Mt := (⟨"PowerBonds$Sheet", "takeFrom", "(LPowerBonds$Sheet;)V"⟩, prog_6_method_3_code, 2, none)
abbrev M_Sh_hasPlace : Mt := (⟨"PowerBonds$Sheet", "hasPlace", "(I)Z"⟩, prog_6_method_4_code, 2, (some .boolean))
abbrev M_Sh_hasRow : Mt := (⟨"PowerBonds$Sheet", "hasRow", "(II)Z"⟩, prog_6_method_5_code, 3, (some .boolean))
abbrev M_Sl_init : Mt := (⟨"PowerBonds$Slot", "<init>", "()V"⟩, prog_7_method_1_code, 1, none)
abbrev M_Sl_refusalFor : Mt := (⟨"PowerBonds$Slot", "refusalFor", "(I)I"⟩, prog_7_method_2_code, 2, (some .int))
abbrev M_Ta_init : Mt := (⟨"PowerBonds$Tape", "<init>", "()V"⟩, prog_8_method_1_code, 1, none)
abbrev M_Ta_putBytes : Mt := (⟨"PowerBonds$Tape", "putBytes", "(I)V"⟩, prog_8_method_2_code, 3, none)
abbrev M_Ta_parse : Mt := (⟨"PowerBonds$Tape", "parse", "()LPowerBonds$Text;"⟩, prog_8_method_3_code, 2, (some (.object "PowerBonds$Text")))
abbrev M_Ta_goOn : Mt := (⟨"PowerBonds$Tape", "goOn", "()V"⟩, prog_8_method_4_code, 3, none)
abbrev M_Ta_sortAt : Mt := (⟨"PowerBonds$Tape", "sortAt", "(I)I"⟩, prog_8_method_5_code, 2, (some .int))
abbrev M_Ta_keyHere : Mt := (⟨"PowerBonds$Tape", "keyHere", "()I"⟩, prog_8_method_6_code, 1, (some .int))
abbrev M_Ta_isWord : Mt := (⟨"PowerBonds$Tape", "isWord", "(Ljava/lang/String;)Z"⟩, prog_8_method_7_code, 3, (some .boolean))
abbrev M_Ta_numberHere : Mt := (⟨"PowerBonds$Tape", "numberHere", "()I"⟩, prog_8_method_8_code, 3, (some .int))
abbrev M_Ta_isName : Mt := (⟨"PowerBonds$Tape", "isName", "()Z"⟩, prog_8_method_9_code, 2, (some .boolean))
abbrev M_Ta_isSign : Mt := (⟨"PowerBonds$Tape", "isSign", "(I)Z"⟩, prog_8_method_10_code, 2, (some .boolean))
abbrev M_Ta_joinsAt : Mt := (⟨"PowerBonds$Tape", "joinsAt", "(I)Z"⟩, prog_8_method_11_code, 2, (some .boolean))
abbrev M_Ta_put : Mt := (⟨"PowerBonds$Tape", "put", "(I)V"⟩, prog_8_method_12_code, 2, none)
abbrev M_Ta_readLevel : Mt := (⟨"PowerBonds$Tape", "readLevel", "(III)Z"⟩, prog_8_method_13_code, 8, (some .boolean))
abbrev M_Ta_readPiece : Mt := (⟨"PowerBonds$Tape", "readPiece", "(II)Z"⟩, prog_8_method_14_code, 4, (some .boolean))
abbrev M_Ta_readOperand : Mt := (⟨"PowerBonds$Tape", "readOperand", "()Z"⟩, prog_8_method_15_code, 2, (some .boolean))
abbrev M_Tx_init : Mt := (⟨"PowerBonds$Text", "<init>", "(III[I)V"⟩, prog_9_method_1_code, 5, none)
abbrev M_Tx_workOut : Mt := (⟨"PowerBonds$Text", "workOut", "([IIII)I"⟩, prog_9_method_2_code, 8, (some .int))
abbrev M_Tx_isOperand : Mt := (⟨"PowerBonds$Text", "isOperand", "(I)Z"⟩, prog_9_method_3_code, 1, (some .boolean))
abbrev M_Tx_valueOf : Mt := (⟨"PowerBonds$Text", "valueOf", "(IIII)I"⟩, prog_9_method_4_code, 4, (some .int))
abbrev M_Tx_join : Mt := (⟨"PowerBonds$Text", "join", "(III)I"⟩, prog_9_method_5_code, 3, (some .int))
abbrev M_Tx_truth : Mt := (⟨"PowerBonds$Text", "truth", "(Z)I"⟩, prog_9_method_6_code, 1, (some .int))
abbrev M_Pb_init : Mt := (⟨"PowerBonds", "<init>", "()V"⟩, prog_1_method_1_code, 2, none)
abbrev M_Pb_part : Mt := (⟨"PowerBonds", "part", "(III)I"⟩, prog_1_method_2_code, 4, (some .int))
abbrev M_Pb_told : Mt := (⟨"PowerBonds", "told", "(II)I"⟩, prog_1_method_3_code, 4, (some .int))
abbrev M_Pb_as : Mt := (⟨"PowerBonds", "as", "(II)I"⟩, prog_1_method_4_code, 4, (some .int))
abbrev M_Pb_set : Mt := (⟨"PowerBonds", "set", "(III)I"⟩, prog_1_method_5_code, 6, (some .int))
abbrev M_Pb_bond : Mt := (⟨"PowerBonds", "bond", "(II)I"⟩, prog_1_method_6_code, 3, (some .int))
abbrev M_Pb_breaks : Mt := (⟨"PowerBonds", "breaks", "(I)I"⟩, prog_1_method_7_code, 2, (some .int))
abbrev M_Pb_of : Mt := (⟨"PowerBonds", "of", "(II)I"⟩, prog_1_method_8_code, 3, (some .int))
abbrev M_Pb_whole : Mt := (⟨"PowerBonds", "whole", "()I"⟩, prog_1_method_9_code, 1, (some .int))
abbrev M_Pb_answers : Mt := (⟨"PowerBonds", "answers", "()I"⟩, prog_1_method_10_code, 1, (some .int))
abbrev M_Pb_strokes : Mt := (⟨"PowerBonds", "strokes", "(I)I"⟩, prog_1_method_11_code, 2, (some .int))
abbrev M_Pb_can : Mt := (⟨"PowerBonds", "can", "(I)I"⟩, prog_1_method_12_code, 2, (some .int))
abbrev M_Pb_run : Mt := (⟨"PowerBonds", "run", "(I)I"⟩, prog_1_method_13_code, 4, (some .int))
abbrev M_Pb_feed : Mt := (⟨"PowerBonds", "feed", "(III)I"⟩, prog_1_method_14_code, 4, (some .int))
abbrev M_Pb_trim : Mt := (⟨"PowerBonds", "trim", "(I)I"⟩, prog_1_method_15_code, 2, (some .int))
abbrev M_Pb_text : Mt := (⟨"PowerBonds", "text", "()I"⟩, prog_1_method_16_code, 2, (some .int))
abbrev M_Pb_textTold : Mt := (⟨"PowerBonds", "textTold", "(II)I"⟩, prog_1_method_17_code, 4, (some .int))
abbrev M_Pb_why : Mt := (⟨"PowerBonds", "why", "(II)I"⟩, prog_1_method_18_code, 6, (some .int))
abbrev M_Pb_read : Mt := (⟨"PowerBonds", "read", "(I)I"⟩, prog_1_method_19_code, 4, (some .int))
abbrev M_Pb_moves : Mt := (⟨"PowerBonds", "moves", "(III)I"⟩, prog_1_method_20_code, 5, (some .int))
abbrev M_Pb_signs : Mt := (⟨"PowerBonds", "signs", "(I)I"⟩, prog_1_method_21_code, 2, (some .int))
abbrev M_Pb_apart : Mt := (⟨"PowerBonds", "apart", "(II)I"⟩, prog_1_method_22_code, 5, (some .int))
abbrev M_Pb_dual : Mt := (⟨"PowerBonds", "dual", "()I"⟩, prog_1_method_23_code, 3, (some .int))
abbrev M_Pb_rings : Mt := (⟨"PowerBonds", "rings", "()I"⟩, prog_1_method_24_code, 1, (some .int))
abbrev M_Pb_way : Mt := (⟨"PowerBonds", "way", "(II)I"⟩, prog_1_method_25_code, 5, (some .int))
abbrev M_Pb_worth : Mt := (⟨"PowerBonds", "worth", "(III)I"⟩, prog_1_method_26_code, 5, (some .int))
abbrev M_Pb_sheet : Mt := (⟨"PowerBonds", "sheet", "(III)I"⟩, prog_1_method_27_code, 5, (some .int))
abbrev M_Pb_mark : Mt := (⟨"PowerBonds", "mark", "(III)I"⟩, prog_1_method_28_code, 6, (some .int))
abbrev M_Pb_pour : Mt := (⟨"PowerBonds", "pour", "(I)I"⟩, prog_1_method_29_code, 5, (some .int))
abbrev M_Pb_copy : Mt := (⟨"PowerBonds", "copy", "(IIIII)I"⟩, prog_1_method_30_code, 8, (some .int))
abbrev M_Pb_lay : Mt := (⟨"PowerBonds", "lay", "(III)I"⟩, prog_1_method_31_code, 6, (some .int))
abbrev M_Pb_ask : Mt := (⟨"PowerBonds", "ask", "(II)I"⟩, prog_1_method_32_code, 5, (some .int))
abbrev M_Pb_item : Mt := (⟨"PowerBonds", "item", "(II)I"⟩, prog_1_method_33_code, 5, (some .int))
abbrev M_Pb_rest : Mt := (⟨"PowerBonds", "rest", "(II)I"⟩, prog_1_method_34_code, 4, (some .int))
abbrev M_Pb_tell : Mt := (⟨"PowerBonds", "tell", "(I)I"⟩, prog_1_method_35_code, 2, (some .int))
abbrev M_Pb_check : Mt := (⟨"PowerBonds", "check", "(I)I"⟩, prog_1_method_36_code, 5, (some .int))
abbrev M_Pb_keep : Mt := (⟨"PowerBonds", "keep", "()I"⟩, prog_1_method_37_code, 1, (some .int))
abbrev M_Pb_back : Mt := (⟨"PowerBonds", "back", "()I"⟩, prog_1_method_38_code, 1, (some .int))
abbrev M_Pb_count : Mt := (⟨"PowerBonds", "count", "(I)I"⟩, prog_1_method_39_code, 2, (some .int))
abbrev M_Pb_settlerOf : Mt := (⟨"PowerBonds", "settlerOf", "(I)I"⟩, prog_1_method_40_code, 2, (some .int))
abbrev M_Pb_carriedBy : Mt := (⟨"PowerBonds", "carriedBy", "(II)I"⟩, prog_1_method_41_code, 4, (some .int))
abbrev M_Pb_signsOf : Mt := (⟨"PowerBonds", "signsOf", "(I)I"⟩, prog_1_method_42_code, 5, (some .int))
abbrev M_Pb_isKind : Mt := (⟨"PowerBonds", "isKind", "(I)Z"⟩, prog_1_method_43_code, 1, (some .boolean))
abbrev M_Pb_isShare : Mt := (⟨"PowerBonds", "isShare", "(I)Z"⟩, prog_1_method_44_code, 1, (some .boolean))
abbrev M_Pb_isSheet : Mt := (⟨"PowerBonds", "isSheet", "(I)Z"⟩, prog_1_method_45_code, 1, (some .boolean))
abbrev M_Pb_isSlot : Mt := (⟨"PowerBonds", "isSlot", "(I)Z"⟩, prog_1_method_46_code, 1, (some .boolean))
abbrev M_Pb_worthOf : Mt := (⟨"PowerBonds", "worthOf", "(I)I"⟩, prog_1_method_47_code, 1, (some .int))
abbrev M_Pb_product : Mt := (⟨"PowerBonds", "product", "(JJ)I"⟩, prog_1_method_48_code, 4, (some .int))
abbrev M_Pb_inverse : Mt := (⟨"PowerBonds", "inverse", "(J)J"⟩, prog_1_method_49_code, 7, (some .long))
abbrev M_Mo_init : Mt := (⟨"PowerBondsModel", "<init>", "()V"⟩, prog_11_method_1_code, 2, none)
abbrev M_Mo_isIn : Mt := (⟨"PowerBondsModel", "isIn", "(JJJ)Z"⟩, prog_11_method_2_code, 6, (some .boolean))
abbrev M_Mo_orNone : Mt := (⟨"PowerBondsModel", "orNone", "(I)I"⟩, prog_11_method_3_code, 1, (some .int))
abbrev M_Mo_becomes : Mt := (⟨"PowerBondsModel", "becomes", "(II)I"⟩, prog_11_method_4_code, 4, (some .int))
abbrev M_Mo_partAt : Mt := (⟨"PowerBondsModel", "partAt", "(I)I"⟩, prog_11_method_5_code, 2, (some .int))
abbrev M_Mo_textAt : Mt := (⟨"PowerBondsModel", "textAt", "(I)I"⟩, prog_11_method_6_code, 2, (some .int))
abbrev M_Mo_isPart : Mt := (⟨"PowerBondsModel", "isPart", "(I)Z"⟩, prog_11_method_7_code, 2, (some .boolean))
abbrev M_Mo_isBond : Mt := (⟨"PowerBondsModel", "isBond", "(I)Z"⟩, prog_11_method_8_code, 2, (some .boolean))
abbrev M_Mo_isText : Mt := (⟨"PowerBondsModel", "isText", "(I)Z"⟩, prog_11_method_9_code, 2, (some .boolean))
abbrev M_Mo_kindOf : Mt := (⟨"PowerBondsModel", "kindOf", "(I)I"⟩, prog_11_method_10_code, 2, (some .int))
abbrev M_Mo_sortOf : Mt := (⟨"PowerBondsModel", "sortOf", "(I)I"⟩, prog_11_method_11_code, 2, (some .int))
abbrev M_Mo_worthOf : Mt := (⟨"PowerBondsModel", "worthOf", "(J)J"⟩, prog_11_method_12_code, 4, (some .long))
abbrev M_Mo_over : Mt := (⟨"PowerBondsModel", "over", "(J)J"⟩, prog_11_method_13_code, 8, (some .long))
abbrev M_Mo_worth : Mt := (⟨"PowerBondsModel", "worth", "(III)I"⟩, prog_11_method_14_code, 4, (some .int))
abbrev M_Mo_isShare : Mt := (⟨"PowerBondsModel", "isShare", "(I)Z"⟩, prog_11_method_15_code, 1, (some .boolean))
abbrev M_Mo_shareOf : Mt := (⟨"PowerBondsModel", "shareOf", "(II)J"⟩, prog_11_method_16_code, 2, (some .long))
abbrev M_Mo_part : Mt := (⟨"PowerBondsModel", "part", "(III)I"⟩, prog_11_method_17_code, 5, (some .int))
abbrev M_Mo_comes : Mt := (⟨"PowerBondsModel", "comes", "(II)I"⟩, prog_11_method_18_code, 3, (some .int))
abbrev M_Mo_endsOf : Mt := (⟨"PowerBondsModel", "endsOf", "(I)I"⟩, prog_11_method_19_code, 4, (some .int))
abbrev M_Mo_hasEnds : Mt := (⟨"PowerBondsModel", "hasEnds", "(I)Z"⟩, prog_11_method_20_code, 4, (some .boolean))
abbrev M_Mo_isWhole : Mt := (⟨"PowerBondsModel", "isWhole", "()Z"⟩, prog_11_method_21_code, 3, (some .boolean))
abbrev M_Mo_told : Mt := (⟨"PowerBondsModel", "told", "(II)I"⟩, prog_11_method_22_code, 4, (some .int))
abbrev M_Mo_isOf : Mt := (⟨"PowerBondsModel", "isOf", "(II)Z"⟩, prog_11_method_23_code, 2, (some .boolean))
abbrev M_Mo_as : Mt := (⟨"PowerBondsModel", "as", "(II)I"⟩, prog_11_method_24_code, 3, (some .int))
abbrev M_Mo_set : Mt := (⟨"PowerBondsModel", "set", "(III)I"⟩, prog_11_method_25_code, 6, (some .int))
abbrev M_Mo_bond : Mt := (⟨"PowerBondsModel", "bond", "(II)I"⟩, prog_11_method_26_code, 3, (some .int))
abbrev M_Mo_breaks : Mt := (⟨"PowerBondsModel", "breaks", "(I)I"⟩, prog_11_method_27_code, 3, (some .int))
abbrev M_Mo_whole : Mt := (⟨"PowerBondsModel", "whole", "()I"⟩, prog_11_method_28_code, 1, (some .int))
abbrev M_Mo_line : Mt := (⟨"PowerBondsModel", "line", "()V"⟩, prog_11_method_29_code, 2, none)
abbrev M_Mo_put : Mt := (⟨"PowerBondsModel", "put", "(IIJ)V"⟩, prog_11_method_30_code, 6, none)
abbrev M_Mo_comesTo : Mt := (⟨"PowerBondsModel", "comesTo", "(J)V"⟩, prog_11_method_31_code, 3, none)
abbrev M_Mo_bondOf : Mt := (⟨"PowerBondsModel", "bondOf", "(II)I"⟩, prog_11_method_32_code, 4, (some .int))
abbrev M_Mo_lawsOfTurn : Mt := (⟨"PowerBondsModel", "lawsOfTurn", "(IJ)V"⟩, prog_11_method_33_code, 7, none)
abbrev M_Mo_lawsOfJoin : Mt := (⟨"PowerBondsModel", "lawsOfJoin", "(I)V"⟩, prog_11_method_34_code, 5, none)
abbrev M_Mo_lawsOf : Mt := (⟨"PowerBondsModel", "lawsOf", "(I)V"⟩, prog_11_method_35_code, 8, none)
abbrev M_Mo_swap : Mt := (⟨"PowerBondsModel", "swap", "(II)V"⟩, prog_11_method_36_code, 6, none)
abbrev M_Mo_solve : Mt := (⟨"PowerBondsModel", "solve", "()I"⟩, prog_11_method_37_code, 11, (some .int))
abbrev M_Mo_answers : Mt := (⟨"PowerBondsModel", "answers", "()I"⟩, prog_11_method_38_code, 1, (some .int))
abbrev M_Mo_of : Mt := (⟨"PowerBondsModel", "of", "(II)I"⟩, prog_11_method_39_code, 4, (some .int))
abbrev M_Mo_settles : Mt := (⟨"PowerBondsModel", "settles", "(II)I"⟩, prog_11_method_40_code, 5, (some .int))
abbrev M_Mo_canBe : Mt := (⟨"PowerBondsModel", "canBe", "(I)Z"⟩, prog_11_method_41_code, 6, (some .boolean))
abbrev M_Mo_sums : Mt := (⟨"PowerBondsModel", "sums", "(II)Z"⟩, prog_11_method_42_code, 3, (some .boolean))
abbrev M_Mo_summing : Mt := (⟨"PowerBondsModel", "summing", "(I)I"⟩, prog_11_method_43_code, 4, (some .int))
abbrev M_Mo_tied : Mt := (⟨"PowerBondsModel", "tied", "(I)I"⟩, prog_11_method_44_code, 4, (some .int))
abbrev M_Mo_strokes : Mt := (⟨"PowerBondsModel", "strokes", "(I)I"⟩, prog_11_method_45_code, 5, (some .int))
abbrev M_Mo_can : Mt := (⟨"PowerBondsModel", "can", "(I)I"⟩, prog_11_method_46_code, 2, (some .int))
abbrev M_Mo_counts : Mt := (⟨"PowerBondsModel", "counts", "(I)I"⟩, prog_11_method_47_code, 4, (some .int))
abbrev M_Mo_gives : Mt := (⟨"PowerBondsModel", "gives", "(I)V"⟩, prog_11_method_48_code, 3, none)
abbrev M_Mo_oneStep : Mt := (⟨"PowerBondsModel", "oneStep", "()I"⟩, prog_11_method_49_code, 5, (some .int))
abbrev M_Mo_setAside : Mt := (⟨"PowerBondsModel", "setAside", "([I[I)V"⟩, prog_11_method_50_code, 4, none)
abbrev M_Mo_run : Mt := (⟨"PowerBondsModel", "run", "(I)I"⟩, prog_11_method_51_code, 4, (some .int))
abbrev M_Mo_feed : Mt := (⟨"PowerBondsModel", "feed", "(III)I"⟩, prog_11_method_52_code, 6, (some .int))
abbrev M_Mo_trim : Mt := (⟨"PowerBondsModel", "trim", "(I)I"⟩, prog_11_method_53_code, 2, (some .int))
abbrev M_Mo_isLetter : Mt := (⟨"PowerBondsModel", "isLetter", "(I)Z"⟩, prog_11_method_54_code, 2, (some .boolean))
abbrev M_Mo_isDigit : Mt := (⟨"PowerBondsModel", "isDigit", "(I)Z"⟩, prog_11_method_55_code, 2, (some .boolean))
abbrev M_Mo_next : Mt := (⟨"PowerBondsModel", "next", "()V"⟩, prog_11_method_56_code, 3, none)
abbrev M_Mo_isSign : Mt := (⟨"PowerBondsModel", "isSign", "(I)Z"⟩, prog_11_method_57_code, 2, (some .boolean))
abbrev M_Mo_isWordAt : Mt := (⟨"PowerBondsModel", "isWordAt", "(IIII)Z"⟩, prog_11_method_58_code, 5, (some .boolean))
abbrev M_Mo_key : Mt := (⟨"PowerBondsModel", "key", "()I"⟩, prog_11_method_59_code, 2, (some .int))
abbrev M_Mo_isName : Mt := (⟨"PowerBondsModel", "isName", "(II)Z"⟩, prog_11_method_60_code, 2, (some .boolean))
abbrev M_Mo_step : Mt := (⟨"PowerBondsModel", "step", "(II)V"⟩, prog_11_method_61_code, 3, none)
abbrev M_Mo_either : Mt := (⟨"PowerBondsModel", "either", "(I)Z"⟩, prog_11_method_62_code, 2, (some .boolean))
abbrev M_Mo_both : Mt := (⟨"PowerBondsModel", "both", "(I)Z"⟩, prog_11_method_63_code, 2, (some .boolean))
abbrev M_Mo_test : Mt := (⟨"PowerBondsModel", "test", "(I)Z"⟩, prog_11_method_64_code, 3, (some .boolean))
abbrev M_Mo_sum : Mt := (⟨"PowerBondsModel", "sum", "(I)Z"⟩, prog_11_method_65_code, 3, (some .boolean))
abbrev M_Mo_term : Mt := (⟨"PowerBondsModel", "term", "(I)Z"⟩, prog_11_method_66_code, 3, (some .boolean))
abbrev M_Mo_part0 : Mt := (⟨"PowerBondsModel", "part0", "(I)Z"⟩, prog_11_method_67_code, 2, (some .boolean))
abbrev M_Mo_parse : Mt := (⟨"PowerBondsModel", "parse", "()I"⟩, prog_11_method_68_code, 3, (some .int))
abbrev M_Mo_text : Mt := (⟨"PowerBondsModel", "text", "()I"⟩, prog_11_method_69_code, 3, (some .int))
abbrev M_Mo_textTold : Mt := (⟨"PowerBondsModel", "textTold", "(II)I"⟩, prog_11_method_70_code, 4, (some .int))
abbrev M_Mo_why : Mt := (⟨"PowerBondsModel", "why", "(II)I"⟩, prog_11_method_71_code, 3, (some .int))
abbrev M_Mo_joined : Mt := (⟨"PowerBondsModel", "joined", "(III)I"⟩, prog_11_method_72_code, 3, (some .int))
abbrev M_Mo_worked : Mt := (⟨"PowerBondsModel", "worked", "(I)I"⟩, prog_11_method_73_code, 6, (some .int))
abbrev M_Mo_read : Mt := (⟨"PowerBondsModel", "read", "(I)I"⟩, prog_11_method_74_code, 4, (some .int))
abbrev M_Mo_moves : Mt := (⟨"PowerBondsModel", "moves", "(III)I"⟩, prog_11_method_75_code, 5, (some .int))
abbrev M_Mo_signs : Mt := (⟨"PowerBondsModel", "signs", "(I)I"⟩, prog_11_method_76_code, 5, (some .int))
abbrev M_Mo_apart : Mt := (⟨"PowerBondsModel", "apart", "(II)I"⟩, prog_11_method_77_code, 5, (some .int))
abbrev M_Mo_dual : Mt := (⟨"PowerBondsModel", "dual", "()I"⟩, prog_11_method_78_code, 4, (some .int))
abbrev M_Mo_findWays : Mt := (⟨"PowerBondsModel", "findWays", "(I)V"⟩, prog_11_method_79_code, 6, none)
abbrev M_Mo_rings : Mt := (⟨"PowerBondsModel", "rings", "()I"⟩, prog_11_method_80_code, 5, (some .int))
abbrev M_Mo_way : Mt := (⟨"PowerBondsModel", "way", "(II)I"⟩, prog_11_method_81_code, 3, (some .int))
abbrev M_Mo_isSheet : Mt := (⟨"PowerBondsModel", "isSheet", "(I)Z"⟩, prog_11_method_82_code, 1, (some .boolean))
abbrev M_Mo_sheet : Mt := (⟨"PowerBondsModel", "sheet", "(III)I"⟩, prog_11_method_83_code, 5, (some .int))
abbrev M_Mo_mark : Mt := (⟨"PowerBondsModel", "mark", "(III)I"⟩, prog_11_method_84_code, 5, (some .int))
abbrev M_Mo_pour : Mt := (⟨"PowerBondsModel", "pour", "(I)I"⟩, prog_11_method_85_code, 4, (some .int))
abbrev M_Mo_copy : Mt := (⟨"PowerBondsModel", "copy", "(IIIII)I"⟩, prog_11_method_86_code, 7, (some .int))
abbrev M_Mo_isSlot : Mt := (⟨"PowerBondsModel", "isSlot", "(I)Z"⟩, prog_11_method_87_code, 1, (some .boolean))
abbrev M_Mo_lay : Mt := (⟨"PowerBondsModel", "lay", "(III)I"⟩, prog_11_method_88_code, 7, (some .int))
abbrev M_Mo_ask : Mt := (⟨"PowerBondsModel", "ask", "(II)I"⟩, prog_11_method_89_code, 3, (some .int))
abbrev M_Mo_item : Mt := (⟨"PowerBondsModel", "item", "(II)I"⟩, prog_11_method_90_code, 3, (some .int))
abbrev M_Mo_rest : Mt := (⟨"PowerBondsModel", "rest", "(II)I"⟩, prog_11_method_91_code, 3, (some .int))
abbrev M_Mo_tell : Mt := (⟨"PowerBondsModel", "tell", "(I)I"⟩, prog_11_method_92_code, 2, (some .int))
abbrev M_Mo_holds : Mt := (⟨"PowerBondsModel", "holds", "()I"⟩, prog_11_method_93_code, 4, (some .int))
abbrev M_Mo_check : Mt := (⟨"PowerBondsModel", "check", "(I)I"⟩, prog_11_method_94_code, 5, (some .int))
abbrev M_Mo_keep : Mt := (⟨"PowerBondsModel", "keep", "()I"⟩, prog_11_method_95_code, 1, (some .int))
abbrev M_Mo_back : Mt := (⟨"PowerBondsModel", "back", "()I"⟩, prog_11_method_96_code, 1, (some .int))
abbrev M_Mo_stores : Mt := (⟨"PowerBondsModel", "stores", "()I"⟩, prog_11_method_97_code, 3, (some .int))
abbrev M_Mo_count : Mt := (⟨"PowerBondsModel", "count", "(I)I"⟩, prog_11_method_98_code, 2, (some .int))
abbrev M_Ji_bitCount : Mt := (⟨"java/lang/Integer", "bitCount", "(I)I"⟩, prog_13_method_49_code, 1, (some .int))
abbrev M_Jm_floorMod : Mt := (⟨"java/lang/Math", "floorMod", "(II)I"⟩, prog_14_method_50_code, 3, (some .int))
abbrev M_Jm_min : Mt := (⟨"java/lang/Math", "min", "(II)I"⟩, prog_14_method_69_code, 2, (some .int))
abbrev M_Js_length : Mt := (⟨"java/lang/String", "length", "()I"⟩, prog_15_method_54_code, 1, (some .int))
abbrev M_Js_charAt : Mt := (⟨"java/lang/String", "charAt", "(I)C"⟩, prog_15_method_56_code, 2, (some .char))
abbrev M_Js_coder : Mt := (⟨"java/lang/String", "coder", "()B"⟩, prog_15_method_152_code, 1, (some .byte))
abbrev M_Js_isLatin1 : Mt := (⟨"java/lang/String", "isLatin1", "()Z"⟩, prog_15_method_154_code, 1, (some .boolean))
abbrev M_Js_checkIndex : Mt := (⟨"java/lang/String", "checkIndex", "(II)V"⟩, prog_15_method_155_code, 2, none)
abbrev M_Jl_charAt : Mt := (⟨"java/lang/StringLatin1", "charAt", "([BI)C"⟩, prog_16_method_2_code, 2, (some .char))
abbrev M_Ju_getChar : Mt := (⟨"java/lang/StringUTF16", "getChar", "([BI)C"⟩, prog_17_method_5_code, 2, (some .char))
abbrev M_Ju_length : Mt := (⟨"java/lang/StringUTF16", "length", "([B)I"⟩, prog_17_method_6_code, 1, (some .int))
abbrev M_Ju_charAt : Mt := (⟨"java/lang/StringUTF16", "charAt", "([BI)C"⟩, prog_17_method_83_code, 2, (some .char))
abbrev M_Ju_checkIndex : Mt := (⟨"java/lang/StringUTF16", "checkIndex", "(I[B)V"⟩, prog_17_method_91_code, 2, none)
abbrev M_Ja_fillJ : Mt := (⟨"java/util/Arrays", "fill", "([JJ)V"⟩, prog_19_method_101_code, 5, none)
abbrev M_Ja_fill : Mt := (⟨"java/util/Arrays", "fill", "([II)V"⟩, prog_19_method_103_code, 4, none)
abbrev M_Ja_copyOf : Mt := (⟨"java/util/Arrays", "copyOf", "([II)[I"⟩, prog_19_method_123_code, 3, (some (.array .int)))
abbrev M_Jp_checkIndex : Mt := (⟨"jdk/internal/util/Preconditions", "checkIndex", "(IILjava/util/function/BiFunction;)I"⟩, prog_20_method_11_code, 3, (some .int))
abbrev M_Lw_law : Mt := (x, code, maxLocals, ret)
/-- an instruction at its place, and the place behind it -/
abbrev Dc (M : Mt) (pc : Nat) (i : Instr) (n pc2 : Nat) : Prop := decode M.2.1 pc = .ok (i, n) ∧ pc + n = pc2
end
section
/-! ===== abstract values: ints, longs, references as (tag, number) ===== -/
abbrev AV : Type := Int32 ⊕ (Int64 ⊕ Option (Nat × Nat))
abbrev vi (x : Int32) : AV := .inl x
abbrev vl (x : Int64) : AV := .inr (.inl x)
abbrev vn : AV := .inr (.inr none)
abbrev vr (t i : Nat) : AV := .inr (.inr (some (t, i)))
abbrev vo (r : Option (Nat × Nat)) : AV := .inr (.inr r)
/-- which object the k-th new cell is -/
def who (k : Nat) : Nat × Nat :=
  if k = 0 then (8, 0)
  else if k < 52 then
    (if (k - 1) % 17 = 0 then (2, (k - 1) / 17) else if (k - 1) % 17 = 1 then (10, (k - 1) / 17) else if (k - 1) % 17 = 2 then (11, (k - 1) / 17)
     else if (k - 1) % 17 = 3 then (12, (k - 1) / 17) else if (k - 1) % 17 = 4 then (13, (k - 1) / 17) else (3, 12 * ((k - 1) / 17) + ((k - 1) % 17 - 5)))
  else if k < 108 then
    (if (k - 52) % 28 = 0 then (0, (k - 52) / 28) else if (k - 52) % 28 = 1 then (14, (k - 52) / 28) else if (k - 52) % 28 = 2 then (15, (k - 52) / 28)
     else if (k - 52) % 28 = 3 then (16, (k - 52) / 28) else (17, 24 * ((k - 52) / 28) + ((k - 52) % 28 - 4)))
  else if k < 118 then
    (if k = 108 then (1, 0) else if k = 109 then (18, 0) else if k = 110 then (19, 0) else if k = 111 then (6, 0) else if k = 112 then (20, 0)
     else if k = 113 then (21, 0) else if k = 114 then (22, 0) else if k = 115 then (23, 0) else if k = 116 then (24, 0) else (25, 0))
  else if k < 126 then (if k % 2 = 0 then (4, (k - 118) / 2) else (26, (k - 118) / 2))
  else if k < 146 then
    (if (k - 126) % 4 = 0 then (5, (k - 126) / 4) else if (k - 126) % 4 = 1 then (3, 36 + (k - 126) / 4) else if (k - 126) % 4 = 2 then (4, 4 + (k - 126) / 4) else (26, 4 + (k - 126) / 4))
  else if k < 168 then
    (if k = 146 then (9, 0) else if k < 150 then (28, k - 147) else (k - 121, 0))
  else (if k % 2 = 0 then (7, (k - 168) / 2) else (27, (k - 168) / 2))
/-- the number of the new cell that an object is -/
def adr (t i : Nat) : Nat :=
  if t = 8 then 0
  else if t = 2 then 1 + 17 * i else if t = 10 then 2 + 17 * i else if t = 11 then 3 + 17 * i else if t = 12 then 4 + 17 * i else if t = 13 then 5 + 17 * i
  else if t = 3 then (if i < 36 then 6 + 17 * (i / 12) + i % 12 else 127 + 4 * (i - 36))
  else if t = 0 then 52 + 28 * i else if t = 14 then 53 + 28 * i else if t = 15 then 54 + 28 * i else if t = 16 then 55 + 28 * i
  else if t = 17 then 56 + 28 * (i / 24) + i % 24
  else if t = 1 then 108 else if t = 18 then 109 else if t = 19 then 110 else if t = 6 then 111 else if t = 20 then 112 else if t = 21 then 113 else if t = 22 then 114
  else if t = 23 then 115 else if t = 24 then 116 else if t = 25 then 117
  else if t = 4 then (if i < 4 then 118 + 2 * i else 128 + 4 * (i - 4))
  else if t = 26 then (if i < 4 then 119 + 2 * i else 129 + 4 * (i - 4))
  else if t = 5 then 126 + 4 * i
  else if t = 9 then 146 else if t = 28 then 147 + i
  else if t = 7 then 168 + 2 * i else if t = 27 then 169 + 2 * i
  else t + 121
/-- how many places an array has -/
def slen (t : Nat) : Nat := ([12, 12, 12, 14, 12, 12, 24, 25, 12, 12, 96, 96, 96, 60, 4, 5, 24, 0, 3110, 4, 4, 96, 5, 5, 5, 5, 120, 600, 24, 96, 128, 100, 24, 12, 24, 60, 60] : List Nat).getD (t - 10) 0
abbrev Zt : Type := (Nat → Nat) × Nat × Nat
def alen (Z : Zt) (t i : Nat) : Nat := if t = 27 then Z.1 i else slen t
/-- what an array holds: 0 int, 1 long, 2 byte, 3 Part, 4 Text, 5 Sheet, 6 Slot, 7 long[] -/
def tc (t : Nat) : Nat := ([3, 0, 0, 4, 0, 0, 7, 1, 0, 0, 2, 0, 0, 0, 5, 6, 0, 0, 0, 0, 0, 0, 0, 0, 0, 0, 0, 1, 1, 0, 0, 0, 1, 0, 0, 0, 0] : List Nat).getD (t - 10) 0
def tcT (k : Nat) : FieldType := ([.int, .long, .byte, .object "PowerBonds$Part", .object "PowerBonds$Text", .object "PowerBonds$Sheet", .object "PowerBonds$Slot", .array .long] : List FieldType).getD k .int
abbrev classes : List vw_C := [(RX0, TX0, 5), (RX1, TX1, 5), (RX2, TX2, 8), (RX3, TX3, 5), (RX4, TX4, 3), (RX5, TX5, 4), (RX6, TX6, 9), (RX7, TX7, 4), (RX8, TX8, 13), (RX9, TX9, 35)]
/-- fields of a class, and whether one is a reference -/
def nf (t : Nat) : Nat := ([5, 5, 8, 5, 3, 4, 9, 4, 13, 35] : List Nat).getD t 0
def fr (t k : Nat) : Bool := (([[1, 1, 1], [1, 1], [1, 1, 1, 1], [], [0, 0, 1], [0, 0, 1, 1], [0, 0, 1, 0, 0, 0, 1], [0, 0, 0, 1], [1, 1, 1, 1, 1, 1, 1, 1, 1, 1, 1], [1, 1, 1, 0, 1, 1, 1, 1, 1, 1, 1, 1, 1, 0, 1, 1, 0, 0, 0, 0, 0, 0, 0, 0, 0, 0, 0, 1, 1, 1, 1, 1, 1, 0, 1]] : List (List Nat)).getD t []).getD k 0 == 1
abbrev It : Type := Nat → Nat → Nat → Int32
abbrev Lt : Type := Nat → Nat → Nat → Int64
abbrev Rt : Type := Nat → Nat → Nat → Option (Nat × Nat)
/-- what a launch and a start fix: class numbers, slots, array classes, the first new cell, where old cells lie -/
abbrev En : Type := va_G × (Nat → ClassId) × Nat × (Nat → Nat → Nat) × Nat × (Nat → Int32)
def ad (E : En) (t i : Nat) : Nat := if t < 50 then E.2.2.1 + adr t i else E.2.2.2.1 t i
def cv (E : En) : AV → Value
  | .inl x => .int x
  | .inr (.inl x) => .long x
  | .inr (.inr none) => .null
  | .inr (.inr (some q)) => .ref (ad E q.1 q.2)
def cR (E : En) (r : Option (Nat × Nat)) : Option Nat := r.map (fun q => ad E q.1 q.2)
theorem cv_o (E : En) (r : Option (Nat × Nat)) : cv E (vo r) = va_rf (cR E r) := by cases r <;> rfl
/-- a reference that may be used -/
def VD (Z : Zt) (t i : Nat) : Prop := t < 50 ∧ adr t i < Z.2.1 ∧ who (adr t i) = (t, i)
def vv (Z : Zt) : AV → Prop
  | .inr (.inr (some q)) => 50 ≤ q.1 ∨ VD Z q.1 q.2
  | _ => True
def fV (E : En) (I : It) (R : Rt) (t i k : Nat) : Value := if fr t k then va_rf (cR E (R t i k)) else .int (I t i k)
def cellE (E : En) (I : It) (L : Lt) (R : Rt) (Z : Zt) (t i : Nat) : va_E :=
  if t < 10 then .inr (t, (List.range (nf t)).map (fV E I R t i))
  else if tc t = 1 then .inl (E.2.1 1, alen Z t i, .inr (.inl (L t i)))
  else if tc t < 3 then .inl (E.2.1 (tc t), alen Z t i, .inl (I t i))
  else .inl (E.2.1 (tc t), alen Z t i, .inr (.inr (.inr (.inr (fun j => cR E (R t i j))))))
/-- the world: the new cells hold what I, L, R say -/
def Wo (E : En) (I : It) (L : Lt) (R : Rt) (Z : Zt) (H : Heap) : Prop :=
  H.size = E.2.2.1 + Z.2.1 ∧ (∀ k, k < Z.2.1 → va_at E.1 classes (E.2.2.1 + k, cellE E I L R Z (who k).1 (who k).2) H) ∧ ∀ t i k q, R t i k = some q → VD Z t i → vv Z (vr q.1 q.2)
theorem adr_who_s : ∀ k, k < 168 → adr (who k).1 (who k).2 = k ∧ (who k).1 < 50 := by decide +kernel
theorem who_T (j : Nat) : who (168 + 2 * j) = (7, j) := by
  unfold who
  repeat (rw [if_neg (by omega)])
  rw [if_pos (by omega), show (168 + 2 * j - 168) / 2 = j by omega]
theorem who_C (j : Nat) : who (169 + 2 * j) = (27, j) := by
  unfold who
  rw [if_neg (by omega), if_neg (by omega), if_neg (by omega), if_neg (by omega), if_neg (by omega), if_neg (by omega), if_neg (by omega), if_neg (by omega), show (169 + 2 * j - 168) / 2 = j by omega]
theorem adr_who (k : Nat) : adr (who k).1 (who k).2 = k ∧ (who k).1 < 50 := by
  by_cases h : k < 168
  · exact adr_who_s k h
  · by_cases e : k % 2 = 0
    · obtain ⟨j, rfl⟩ : ∃ j, k = 168 + 2 * j := ⟨(k - 168) / 2, by omega⟩
      rw [who_T]
      exact ⟨rfl, Nat.lt_of_sub_eq_succ rfl⟩
    · obtain ⟨j, rfl⟩ : ∃ j, k = 169 + 2 * j := ⟨(k - 168) / 2, by omega⟩
      rw [who_C]
      exact ⟨rfl, Nat.lt_of_sub_eq_succ rfl⟩
theorem VD.mono {Z Z2 : Zt} (h : Z.2.1 ≤ Z2.2.1) {t i : Nat} (hv : VD Z t i) : VD Z2 t i := ⟨hv.1, Nat.lt_of_lt_of_le hv.2.1 h, hv.2.2⟩
theorem vv.mono {Z Z2 : Zt} (h : Z.2.1 ≤ Z2.2.1) {v : AV} (hv : vv Z v) : vv Z2 v := by
  match v, hv with
  | .inl _, _ => trivial
  | .inr (.inl _), _ => trivial
  | .inr (.inr none), _ => trivial
  | .inr (.inr (some _)), hv => exact hv.imp id (VD.mono h)
theorem Wo.at {E : En} {I : It} {L : Lt} {R : Rt} {Z : Zt} {H : Heap} (h : Wo E I L R Z H) {t i : Nat} (hv : VD Z t i) : va_at E.1 classes (ad E t i, cellE E I L R Z t i) H := by
  have h1 := h.2.1 (adr t i) hv.2.1
  rw [hv.2.2] at h1
  unfold ad
  rw [if_pos hv.1]
  exact h1
theorem VD.inj {Z : Zt} {E : En} {t i t2 i2 : Nat} (h : VD Z t i) (h2 : VD Z t2 i2) (e : ad E t i = ad E t2 i2) : t = t2 ∧ i = i2 := by
  unfold ad at e
  rw [if_pos h.1, if_pos h2.1] at e
  have e2 : adr t i = adr t2 i2 := by omega
  have h3 := h.2.2
  rw [e2, h2.2.2] at h3
  exact ⟨(Prod.mk.inj h3).1.symm, (Prod.mk.inj h3).2.symm⟩
/-- one cell is written -/
theorem Wo.put {E : En} {I I2 : It} {L L2 : Lt} {R R2 : Rt} {Z : Zt} {H H2 : Heap} (h : Wo E I L R Z H) {t i : Nat} (hv : VD Z t i) (hz : H2.size = H.size) (ho : ∀ q, q ≠ ad E t i → H2[q]? = H[q]?)
    (hc : va_at E.1 classes (ad E t i, cellE E I2 L2 R2 Z t i) H2) (hn : ∀ t2 i2, ¬ (t2 = t ∧ i2 = i) → I2 t2 i2 = I t2 i2 ∧ L2 t2 i2 = L t2 i2 ∧ R2 t2 i2 = R t2 i2) (hr : ∀ k q, R2 t i k = some q → vv Z (vr q.1 q.2)) : Wo E I2 L2 R2 Z H2 := by
  have ha : ad E t i = E.2.2.1 + adr t i := by unfold ad; rw [if_pos hv.1]
  refine ⟨hz.trans h.1, fun k hk => ?_, fun t2 i2 k q hq hv2 => ?_⟩
  · by_cases e : (who k).1 = t ∧ (who k).2 = i
    · have e2 : adr t i = k := by rw [← e.1, ← e.2]; exact (adr_who k).1
      rw [e.1, e.2, ← e2, ← ha]
      exact hc
    · obtain ⟨e1, e2, e3⟩ := hn _ _ e
      have e4 : cellE E I2 L2 R2 Z (who k).1 (who k).2 = cellE E I L R Z (who k).1 (who k).2 := by
        have e5 : fV E I2 R2 (who k).1 (who k).2 = fV E I R (who k).1 (who k).2 := by
          funext j
          unfold fV
          rw [e1, e3]
        unfold cellE
        rw [e1, e2, e3, e5]
      rw [e4]
      refine (h.2.1 k hk).kept (ho _ (fun q => e ?_))
      have q2 : k = adr t i := by
        have q : E.2.2.1 + k = ad E t i := q
        omega
      rw [q2, hv.2.2]
      exact ⟨rfl, rfl⟩
  · by_cases e : t2 = t ∧ i2 = i
    · obtain ⟨rfl, rfl⟩ := e
      exact hr k q hq
    · rw [(hn t2 i2 e).2.2] at hq
      exact h.2.2 t2 i2 k q hq hv2
/-- pointwise changes -/
def sI (I : It) (t i k : Nat) (x : Int32) : It := fun t2 i2 k2 => if t2 = t ∧ i2 = i then (if k2 = k then x else I t2 i2 k2) else I t2 i2 k2
def sL (L : Lt) (t i k : Nat) (x : Int64) : Lt := fun t2 i2 k2 => if t2 = t ∧ i2 = i then (if k2 = k then x else L t2 i2 k2) else L t2 i2 k2
def sR (R : Rt) (t i k : Nat) (x : Option (Nat × Nat)) : Rt := fun t2 i2 k2 => if t2 = t ∧ i2 = i then (if k2 = k then x else R t2 i2 k2) else R t2 i2 k2
theorem sI_n {I : It} {t i k : Nat} {x : Int32} {t2 i2 : Nat} (h : ¬ (t2 = t ∧ i2 = i)) : sI I t i k x t2 i2 = I t2 i2 := by funext j; unfold sI; rw [if_neg h]
theorem sL_n {I : Lt} {t i k : Nat} {x : Int64} {t2 i2 : Nat} (h : ¬ (t2 = t ∧ i2 = i)) : sL I t i k x t2 i2 = I t2 i2 := by funext j; unfold sL; rw [if_neg h]
theorem sR_n {I : Rt} {t i k : Nat} {x : Option (Nat × Nat)} {t2 i2 : Nat} (h : ¬ (t2 = t ∧ i2 = i)) : sR I t i k x t2 i2 = I t2 i2 := by funext j; unfold sR; rw [if_neg h]
theorem sI_s (I : It) (t i k : Nat) (x : Int32) : sI I t i k x t i = upd (I t i) k x := by funext j; unfold sI upd; rw [if_pos ⟨rfl, rfl⟩]
theorem sL_s (I : Lt) (t i k : Nat) (x : Int64) : sL I t i k x t i = vp_updL (I t i) k x := by funext j; unfold sL vp_updL; rw [if_pos ⟨rfl, rfl⟩]
theorem sR_s (I : Rt) (t i k : Nat) (x : Option (Nat × Nat)) : sR I t i k x t i = va_up (I t i) k x := by funext j; unfold sR va_up; rw [if_pos ⟨rfl, rfl⟩]
end
section
/-! ===== what a launch fixes, carried from state to state ===== -/
def va_AOA (t : FieldType) (U : State) : Prop := (Cond.arrayOver (.array t)).before #[] U = true
theorem va_AOA.of {t : FieldType} {A : Array Value} {U : State} (h : (Cond.arrayOver (.array t)).before A U = true) : va_AOA t U := h
theorem va_AOA.use {t : FieldType} {A : Array Value} {U : State} (h : va_AOA t U) : (Cond.arrayOver (.array t)).before A U = true := h
def G : List Cond := lw_tbl.filter goodWord
theorem G_at {i : Nat} {w : Cond} (h : lw_tbl[i]? = some w) (hg : goodWord w = true) : w ∈ G := List.mem_filter.mpr ⟨List.mem_of_getElem? h, hg⟩
theorem G_good : ∀ w ∈ G, (w.onTables && w.keeps) = true ∨ ∃ ty, w = .arrayClass ty := fun _ h => good_of_word (List.mem_filter.mp h).2
def nestM (w : Cond) : Bool := match w with
  | .methodLinkNest _ _ _ _ => true
  | .fieldLinkNest _ _ _ _ _ _ => true
  | _ => false
def Gn : List Cond := lw_tbl.filter nestM
theorem Gn_at {i : Nat} {w : Cond} (h : lw_tbl[i]? = some w) (hg : nestM w = true) : w ∈ Gn := List.mem_filter.mpr ⟨List.mem_of_getElem? h, hg⟩
def Af (E : En) : Nat → Prop := fun q => E.2.2.1 ≤ q
def tys (E : En) : List (ClassId × FieldType) := (List.range 8).map fun k => (E.2.1 k, tcT k)
theorem tys_at (E : En) {k : Nat} (h : k < 8) : (tys E)[k]? = some (E.2.1 k, tcT k) := by
  unfold tys
  rw [List.getElem?_map, List.getElem?_range h]
  rfl
def abv (k : Nat) : Value := .int (([-1, 0, 0, 2, 0, 4] : List Int32).getD k 0)
def sby : List (List Int32) := [[103, 105, 118, 101], [114, 101, 97, 100]]
def StF (E : En) (U : State) (H : Heap) : Prop :=
  va_K E.1 classes (tys E) U ∧ (∀ w ∈ Gn, va_Nw w U) ∧
  (va_AO "PowerBonds$Part" U ∧ va_AO "PowerBonds$Text" U ∧ va_AO "PowerBonds$Sheet" U ∧ va_AO "PowerBonds$Slot" U ∧ va_AOA .long U ∧ va_Nw (.castable "[I" "java/lang/Cloneable") U) ∧
  (vk_R "PowerBonds$Tape" 70 "give" (E.2.2.2.1 51 0) U ∧ vk_R "PowerBonds$Tape" 76 "read" (E.2.2.2.1 51 1) U) ∧
  (va_Z "PowerBonds" "ABOVE" "[I" (.ref (E.2.2.2.1 50 0)) (Af E) U H ∧ va_T .int (E.2.2.2.1 50 0) 6 abv (Af E) U H) ∧
  vk_S 2 [4, 4] sby (E.2.2.2.1 51) (E.2.2.2.1 52) (Af E) U H ∧
  (va_Z "java/lang/String" "COMPACT_STRINGS" "Z" (.int 1) (Af E) U H ∧ va_Z "jdk/internal/util/Preconditions" "SIOOBE_FORMATTER" "Ljava/util/function/BiFunction;" (if E.2.2.2.1 55 0 = 0 then .null else .ref (E.2.2.2.1 54 0)) (Af E) U H) ∧
  (va_X (E.2.2.2.1 53 0) E.2.2.2.2.1 E.2.2.2.2.2 U H ∧ E.2.2.2.1 53 0 < E.2.2.1)
theorem va_AOA.moved {t : FieldType} {u U : State} (hvm : u.vm.Alike U.vm) (h : va_AOA t u) : va_AOA t U := by
  exact over_moved (a := #[]) (a' := #[]) hvm h
theorem StF.moved {E : En} {s U : State} {H : Heap} (hW : s.WarmedH U.vm) (h : StF E s H) : StF E U H := by
  obtain ⟨h1, h2, ⟨a1, a2, a3, a4, a5, a6⟩, ⟨r1, r2⟩, ⟨z1, z2⟩, s1, ⟨c1, c2⟩, x1, x2⟩ := h
  have hvm := hW.alike
  refine ⟨h1.moved hvm, fun w hw => ?_, ⟨a1.moved hvm, a2.moved hvm, a3.moved hvm, a4.moved hvm, a5.moved hvm, va_Nw.warmC hW a6⟩, ⟨r1.warm hW, r2.warm hW⟩, ⟨z1.moved hvm, z2.moved hvm⟩, s1.moved hvm, ⟨c1.moved hvm, c2.moved hvm⟩, x1.moved hvm, x2⟩
  have hm := (List.mem_filter.mp hw).2
  have hz := h2 w hw
  cases w <;> first | exact va_Nw.warmM hW hz | exact va_Nw.warmF hW hz | cases hm
theorem StF.kept {E : En} {U : State} {H H1 : Heap} (h : StF E U H) (hq : ∀ a : Nat, a < H.size → ¬ Af E a → H1[a]? = H[a]?) (hB : E.2.2.1 ≤ H.size) : StF E U H1 := by
  obtain ⟨h1, h2, h3, h4, ⟨z1, z2⟩, s1, ⟨c1, c2⟩, x1, x2⟩ := h
  exact ⟨h1, h2, h3, h4, ⟨z1.kept hq, z2.kept hq⟩, s1.kept hq, ⟨c1.kept hq, c2.kept hq⟩, x1.kept (hq _ (Nat.lt_of_lt_of_le x2 hB) (Nat.not_le.mpr x2)), x2⟩
theorem StF.same {E : En} {s U : State} {H : Heap} (hv : U.vm = s.vm) (h : StF E s H) : StF E U H := by
  obtain ⟨h1, h2, ⟨a1, a2, a3, a4, a5, a6⟩, ⟨r1, r2⟩, ⟨z1, z2⟩, s1, ⟨c1, c2⟩, x1, x2⟩ := h
  have hvm : s.vm.Alike U.vm := by rw [hv]; exact Vm.Alike.refl _
  refine ⟨h1.moved hvm, fun w hw => ?_, ⟨a1.moved hvm, a2.moved hvm, a3.moved hvm, a4.moved hvm, a5.moved hvm, va_Nw.same rfl hv.symm a6⟩, ⟨r1.same hv, r2.same hv⟩, ⟨z1.moved hvm, z2.moved hvm⟩, s1.moved hvm, ⟨c1.moved hvm, c2.moved hvm⟩, x1.moved hvm, x2⟩
  have hm := (List.mem_filter.mp hw).2
  have hz := h2 w hw
  cases w <;> first | exact va_Nw.same rfl hv.symm hz | cases hm
end
section
/-! ===== locals by place ===== -/
def lvP : List (Option AV) → Nat → List (Nat × AV)
  | [], _ => []
  | none :: t, k => lvP t (k + 1)
  | some v :: t, k => (k, v) :: lvP t (k + 1)
theorem lvP_mem {v : AV} : ∀ (ls : List (Option AV)) (k j : Nat), (j, v) ∈ lvP ls k ↔ ∃ i, j = k + i ∧ ls[i]? = some (some v)
  | [], k, j => by simp [lvP]
  | none :: t, k, j => by
    unfold lvP
    rw [lvP_mem t (k + 1) j]
    constructor
    · rintro ⟨i, h1, h2⟩
      exact ⟨i + 1, by omega, h2⟩
    · rintro ⟨i, h1, h2⟩
      cases i with
      | zero => simp at h2
      | succ i => exact ⟨i, by omega, h2⟩
  | some w :: t, k, j => by
    unfold lvP
    rw [List.mem_cons, lvP_mem t (k + 1) j]
    constructor
    · rintro (h | ⟨i, h1, h2⟩)
      · cases h
        exact ⟨0, rfl, rfl⟩
      · exact ⟨i + 1, by omega, h2⟩
    · rintro ⟨i, h1, h2⟩
      cases i with
      | zero =>
        left
        have h3 : w = v := by simpa using h2
        rw [h1, h3]
        rfl
      | succ i => exact Or.inr ⟨i, by omega, h2⟩
def lvH (E : En) (als : Array Slot) (nL : Nat) (ls : List (Option AV)) : Prop := lv_has als nL ((lvP ls 0).map fun q => (q.1, cv E q.2)) ∧ ls.length = nL
theorem lvH.get {E : En} {als : Array Slot} {nL : Nat} {ls : List (Option AV)} (h : lvH E als nL ls) {k : Nat} {v : AV} (hk : ls[k]? = some (some v)) : als[k]? = some (.val (cv E v)) := by
  have h1 : (k, v) ∈ lvP ls 0 := (lvP_mem ls 0 k).mpr ⟨k, by omega, hk⟩
  exact h.1.2.2 (k, cv E v) (List.mem_map.mpr ⟨(k, v), h1, rfl⟩)
def isLg : Option AV → Bool
  | some (.inr (.inl _)) => true
  | _ => false
theorem cv_cat (E : En) (v : AV) : (cv E v).category = 2 ↔ isLg (some v) = true := by
  match v with
  | .inl _ => simp [cv, isLg, Value.category]
  | .inr (.inl _) => simp [cv, isLg, Value.category]
  | .inr (.inr none) => simp [cv, isLg, Value.category]
  | .inr (.inr (some _)) => simp [cv, isLg, Value.category]
/-- a value of one word comes to a place -/
theorem lvH.st1 {E : En} {als : Array Slot} {nL : Nat} {ls : List (Option AV)} (h : lvH E als nL ls) {k : Nat} {v : AV} (hp : ∀ j, j + 1 = k → isLg (ls.getD j none) = false) {als2 : Array Slot}
    (h2 : lv_has als2 nL ((k, cv E v) :: ((lvP ls 0).map fun q => (q.1, cv E q.2)).filter (fun q => !(q.1 == k) && !(q.1 + 1 == k && q.2.category == 2)))) : lvH E als2 nL (ls.set k (some v)) := by
  refine ⟨⟨h2.1, h2.2.1, fun q hq => ?_⟩, by rw [List.length_set]; exact h.2⟩
  obtain ⟨⟨j, w⟩, h3, rfl⟩ := List.mem_map.mp hq
  obtain ⟨i, h4, h5⟩ := (lvP_mem _ 0 j).mp h3
  have h4 : j = i := by omega
  subst h4
  by_cases e : j = k
  · subst e
    have hl : j < ls.length := by
      have := (List.getElem?_eq_some_iff.mp h5).1
      rwa [List.length_set] at this
    rw [List.getElem?_set_self hl] at h5
    cases h5
    exact h2.2.2 _ List.mem_cons_self
  · rw [List.getElem?_set_ne (Ne.symm e)] at h5
    refine h2.2.2 _ (List.mem_cons_of_mem _ (List.mem_filter.mpr ⟨List.mem_map.mpr ⟨(j, w), (lvP_mem _ 0 j).mpr ⟨j, by omega, h5⟩, rfl⟩, ?_⟩))
    have e1 : (j == k) = false := by simpa using e
    have e2 : (j + 1 == k && (cv E w).category == 2) = false := by
      by_cases e3 : j + 1 = k
      · have e4 := hp j e3
        rw [List.getD_eq_getElem?_getD, h5, Option.getD_some] at e4
        have e5 : ¬ (cv E w).category = 2 := fun q => by rw [(cv_cat E w).mp q] at e4; cases e4
        simp [e5]
      · simp [e3]
    show (!(j == k) && !(j + 1 == k && (cv E w).category == 2)) = true
    rw [e1, e2]
    rfl
theorem lvH.st2 {E : En} {als : Array Slot} {nL : Nat} {ls : List (Option AV)} (h : lvH E als nL ls) {k : Nat} {v : AV} (hp : ∀ j, j + 1 = k → isLg (ls.getD j none) = false) {als2 : Array Slot}
    (h2 : lv_has als2 nL ((k, cv E v) :: ((lvP ls 0).map fun q => (q.1, cv E q.2)).filter (fun q => !(q.1 == k) && (!(q.1 == k + 1) && !(q.1 + 1 == k && q.2.category == 2))))) : lvH E als2 nL ((ls.set k (some v)).set (k + 1) none) := by
  refine ⟨⟨h2.1, h2.2.1, fun q hq => ?_⟩, by rw [List.length_set, List.length_set]; exact h.2⟩
  obtain ⟨⟨j, w⟩, h3, rfl⟩ := List.mem_map.mp hq
  obtain ⟨i, h4, h5⟩ := (lvP_mem _ 0 j).mp h3
  have h4 : j = i := by omega
  subst h4
  have hl0 := (List.getElem?_eq_some_iff.mp h5).1
  rw [List.length_set, List.length_set] at hl0
  by_cases e6 : j = k + 1
  · subst e6
    rw [List.getElem?_set_self (by rw [List.length_set]; exact hl0)] at h5
    cases h5
  rw [List.getElem?_set_ne (Ne.symm e6)] at h5
  by_cases e : j = k
  · subst e
    rw [List.getElem?_set_self hl0] at h5
    cases h5
    exact h2.2.2 _ List.mem_cons_self
  · rw [List.getElem?_set_ne (Ne.symm e)] at h5
    refine h2.2.2 _ (List.mem_cons_of_mem _ (List.mem_filter.mpr ⟨List.mem_map.mpr ⟨(j, w), (lvP_mem _ 0 j).mpr ⟨j, by omega, h5⟩, rfl⟩, ?_⟩))
    have e1 : (j == k) = false := by simpa using e
    have e7 : (j == k + 1) = false := by simpa using e6
    have e2 : (j + 1 == k && (cv E w).category == 2) = false := by
      by_cases e3 : j + 1 = k
      · have e4 := hp j e3
        rw [List.getD_eq_getElem?_getD, h5, Option.getD_some] at e4
        have e5 : ¬ (cv E w).category = 2 := fun q => by rw [(cv_cat E w).mp q] at e4; cases e4
        simp [e5]
      · simp [e3]
    show (!(j == k) && (!(j == k + 1) && !(j + 1 == k && (cv E w).category == 2))) = true
    rw [e1, e2, e7]
    rfl
/-! ===== the judgements ===== -/
def Fx (E : En) (d : Nat) (M : Mt) (p : Program) (Rm : Room) (s : State) (m : MethodId) (args : Array Value) (meth : Method) (c : Code) : Prop :=
  p.tables.exec = Jvm.exec ∧ c.code = M.2.1 ∧ c.maxLocals = M.2.2.1 ∧ s.vm.findClass M.1.cls = some m.cls ∧ (∀ w ∈ G, w.before args s = true) ∧ StF E s s.heap ∧ meth.sig.returnType = M.2.2.2 ∧ meth.locks = false ∧ meth.name = M.1.name ∧ d ≤ Rm.frames ∧ 40 * d ≤ Rm.locals ∧ E.2.2.1 ≤ s.heap.size
/-- the end of a method: its answer, and the world behind it -/
def QcM (E : En) (r : Option AV) (I : It) (L : Lt) (R : Rt) (Z : Zt) : Array Value → State → Outcome → State → Prop := fun _ st oc t =>
  oc = .returned (r.map (cv E)) ∧ Wo E I L R Z t.heap ∧ (∀ v, r = some v → vv Z v) ∧ va_F (Af E) st t
def PcM (E : En) (as : List AV) (I : It) (L : Lt) (R : Rt) (Z : Zt) : Array Value → State → Prop := va_Pc (as.map (cv E)) (fun U => StF E U U.heap ∧ Wo E I L R Z U.heap ∧ ∀ v ∈ as, vv Z v)
def wsM (M : Mt) : List Cond := Cond.code M.1 M.2.1 M.2.2.1 M.2.2.2 :: G
def rmM (d mc ms : Nat) : Room := { frames := d, cells := mc, slots := ms, locals := 40 * d }
abbrev Qt : Type := Option AV → It → Lt → Rt → Zt → Prop
def AW (l : Launch) (E : En) (d : Nat) (M : Mt) (Z0 : Zt) (pc : Nat) (ls : List (Option AV)) (st : List AV) (I : It) (L : Lt) (R : Rt) (Z : Zt) (r : Option AV) (I2 : It) (L2 : Lt) (R2 : Rt) (Z2 : Zt) : Prop :=
  (Z.2.1 ≤ Z2.2.1 ∧ Z.2.2 ≤ Z2.2.2) ∧ ∀ (p : Program) (e : Env) (Rm : Room) (s : State) (m : MethodId) (args : Array Value) (below : List Frame) (meth : Method) (c : Code), Fx E d M p Rm s m args meth c → Z2.2.1 - Z0.2.1 ≤ Rm.cells → Z2.2.2 - Z0.2.2 ≤ Rm.slots → Z0.2.1 ≤ Z.2.1 → Z0.2.2 ≤ Z.2.2 →
    ∀ (als : Array Slot) (H : Heap) (locs : List Loc), lvH E als M.2.2.1 ls → (∀ v ∈ st, vv Z v) → (∀ v, some v ∈ ls → vv Z v) → Wo E I L R Z H → va_S (Af E) s.heap H locs →
      W p l e Rm s m args below meth c H locs (Z.2.1 - Z0.2.1) (Z.2.2 - Z0.2.2) (MQ below (QcM E r I2 L2 R2 Z2) args s (Z2.2.1 - Z0.2.1) (Z2.2.2 - Z0.2.2) (Af E)) (F0 m pc als (st.map (cv E)))
/-- from here the method comes to its end, with Q of its answer and of the world -/
def AWq (l : Launch) (E : En) (d : Nat) (M : Mt) (Z0 : Zt) (pc : Nat) (ls : List (Option AV)) (st : List AV) (I : It) (L : Lt) (R : Rt) (Z : Zt) (Q : Qt) : Prop :=
  ∃ r I2 L2 R2 Z2, Q r I2 L2 R2 Z2 ∧ AW l E d M Z0 pc ls st I L R Z r I2 L2 R2 Z2
/-- a method's contract at one start -/
def AMet (l : Launch) (E : En) (d : Nat) (M : Mt) (as : List AV) (I : It) (L : Lt) (R : Rt) (Z : Zt) (Q : Qt) : Prop :=
  ∃ r I2 L2 R2 Z2, Q r I2 L2 R2 Z2 ∧ (Z.2.1 ≤ Z2.2.1 ∧ Z.2.2 ≤ Z2.2.2) ∧ Met l M.1 (wsM M) (rmM d (Z2.2.1 - Z.2.1) (Z2.2.2 - Z.2.2)) (PcM E as I L R Z) (QcM E r I2 L2 R2 Z2) (Z2.2.1 - Z.2.1) (Z2.2.2 - Z.2.2) (Af E)
section LIFT
variable {l : Launch} {E : En} {d : Nat} {M : Mt} {Z0 : Zt} {pc pc2 : Nat} {ls ls2 : List (Option AV)} {st st2 : List AV} {I : It} {L : Lt} {R : Rt} {Z : Zt} {Q : Qt}
/-- an instruction that leaves the world as it is -/
theorem AWq.lift (k : AWq l E d M Z0 pc2 ls2 st2 I L R Z Q) (hv : (∀ v ∈ st, vv Z v) → (∀ v, some v ∈ ls → vv Z v) → (∀ v ∈ st2, vv Z v) ∧ (∀ v, some v ∈ ls2 → vv Z v))
    (hw : ∀ (p : Program) (e : Env) (Rm : Room) (s : State) (m : MethodId) (args : Array Value) (below : List Frame) (meth : Method) (c : Code) (cells slots : Nat) (Qs : State → Prop), Fx E d M p Rm s m args meth c → ∀ (als : Array Slot) (H : Heap) (locs : List Loc), lvH E als M.2.2.1 ls → (∀ v ∈ st, vv Z v) → Wo E I L R Z H → va_S (Af E) s.heap H locs →
      (∀ als2 : Array Slot, lvH E als2 M.2.2.1 ls2 → W p l e Rm s m args below meth c H locs cells slots Qs (F0 m pc2 als2 (st2.map (cv E)))) → W p l e Rm s m args below meth c H locs cells slots Qs (F0 m pc als (st.map (cv E)))) :
    AWq l E d M Z0 pc ls st I L R Z Q := by
  obtain ⟨r, I2, L2, R2, Z2, hq, hz, k⟩ := k
  refine ⟨r, I2, L2, R2, Z2, hq, hz, fun p e Rm s m args below meth c F h1 h2 h3 h4 als H locs hl v1 v2 hW hS => ?_⟩
  obtain ⟨w1, w2⟩ := hv v1 v2
  exact hw p e Rm s m args below meth c _ _ _ F als H locs hl v1 hW hS (fun als2 hl2 => k p e Rm s m args below meth c F h1 h2 h3 h4 als2 H locs hl2 w1 w2 hW hS)
end LIFT
end
section
theorem vt1 {Z : Zt} {a : AV} {st : List AV} (h : ∀ v ∈ a :: st, vv Z v) : ∀ v ∈ st, vv Z v := fun v hv => h v (List.mem_cons_of_mem _ hv)
theorem vc1 {Z : Zt} {a : AV} {st : List AV} (ha : vv Z a) (h : ∀ v ∈ st, vv Z v) : ∀ v ∈ a :: st, vv Z v := fun v hv => (List.mem_cons.mp hv).elim (fun e => by rw [e]; exact ha) (h v)
theorem vh1 {Z : Zt} {a : AV} {st : List AV} (h : ∀ v ∈ a :: st, vv Z v) : vv Z a := h a List.mem_cons_self
theorem cat1 (E : En) {v : AV} (h : isLg (some v) = false) : (cv E v).category = 1 := (lv_cat (cv E v)).resolve_right (fun q => by rw [(cv_cat E v).mp q] at h; cases h)
theorem vset {Z : Zt} {ls : List (Option AV)} {k : Nat} {w : AV} (h : ∀ v, some v ∈ ls → vv Z v) (hw : vv Z w) : ∀ v, some v ∈ ls.set k (some w) → vv Z v := fun v hv => by
  rcases List.mem_or_eq_of_mem_set hv with h1 | h1
  · exact h v h1
  · cases h1
    exact hw
theorem vsetN {Z : Zt} {ls : List (Option AV)} {k : Nat} (h : ∀ v, some v ∈ ls → vv Z v) : ∀ v, some v ∈ ls.set k none → vv Z v := fun v hv => by
  rcases List.mem_or_eq_of_mem_set hv with h1 | h1
  · exact h v h1
  · cases h1
theorem hpS {ls : List (Option AV)} {k j : Nat} (e : j = k + 1) (h : isLg (ls.getD k none) = false) : ∀ q, q + 1 = j → isLg (ls.getD q none) = false := fun q hq => by
  have e2 : q = k := by omega
  rw [e2]
  exact h
/-- a branch at its place: where it goes, and the place behind it -/
abbrev Db (M : Mt) (pc : Nat) (i : Instr) (off : Int) (tgt pc2 : Nat) : Prop := decode M.2.1 pc = .ok (i, 3) ∧ pc + 3 = pc2 ∧ (pc : Int) + off = (tgt : Int)
section RULES
variable {l : Launch} {E : En} {d : Nat} {M : Mt} {Z0 : Zt} {pc pc2 tgt : Nat} {ls : List (Option AV)} {st : List AV} {I : It} {L : Lt} {R : Rt} {Z : Zt} {Q : Qt}
theorem aw_iadd {x y : Int32} (hd : Dc M pc (.iadd) 1 pc2) (k : AWq l E d M Z0 pc2 ls (vi (x + y) :: st) I L R Z Q) : AWq l E d M Z0 pc ls (vi y :: vi x :: st) I L R Z Q := by
  obtain ⟨hd, rfl⟩ := hd
  exact k.lift (fun v1 v2 => ⟨vc1 trivial (vt1 (vt1 v1)), v2⟩) (fun p e Rm s m args below meth c cells slots Qs F als H locs hl v1 hW hS kk => lv_iadd F.1 F.2.1 hd (kk als hl))
theorem aw_isub {x y : Int32} (hd : Dc M pc (.isub) 1 pc2) (k : AWq l E d M Z0 pc2 ls (vi (x - y) :: st) I L R Z Q) : AWq l E d M Z0 pc ls (vi y :: vi x :: st) I L R Z Q := by
  obtain ⟨hd, rfl⟩ := hd
  exact k.lift (fun v1 v2 => ⟨vc1 trivial (vt1 (vt1 v1)), v2⟩) (fun p e Rm s m args below meth c cells slots Qs F als H locs hl v1 hW hS kk => lv_isub F.1 F.2.1 hd (kk als hl))
theorem aw_imul {x y : Int32} (hd : Dc M pc (.imul) 1 pc2) (k : AWq l E d M Z0 pc2 ls (vi (x * y) :: st) I L R Z Q) : AWq l E d M Z0 pc ls (vi y :: vi x :: st) I L R Z Q := by
  obtain ⟨hd, rfl⟩ := hd
  exact k.lift (fun v1 v2 => ⟨vc1 trivial (vt1 (vt1 v1)), v2⟩) (fun p e Rm s m args below meth c cells slots Qs F als H locs hl v1 hW hS kk => lv_imul F.1 F.2.1 hd (kk als hl))
theorem aw_iand {x y : Int32} (hd : Dc M pc (.iand) 1 pc2) (k : AWq l E d M Z0 pc2 ls (vi (x &&& y) :: st) I L R Z Q) : AWq l E d M Z0 pc ls (vi y :: vi x :: st) I L R Z Q := by
  obtain ⟨hd, rfl⟩ := hd
  exact k.lift (fun v1 v2 => ⟨vc1 trivial (vt1 (vt1 v1)), v2⟩) (fun p e Rm s m args below meth c cells slots Qs F als H locs hl v1 hW hS kk => lv_iand F.1 F.2.1 hd (kk als hl))
theorem aw_ior {x y : Int32} (hd : Dc M pc (.ior) 1 pc2) (k : AWq l E d M Z0 pc2 ls (vi (x ||| y) :: st) I L R Z Q) : AWq l E d M Z0 pc ls (vi y :: vi x :: st) I L R Z Q := by
  obtain ⟨hd, rfl⟩ := hd
  exact k.lift (fun v1 v2 => ⟨vc1 trivial (vt1 (vt1 v1)), v2⟩) (fun p e Rm s m args below meth c cells slots Qs F als H locs hl v1 hW hS kk => lv_ior F.1 F.2.1 hd (kk als hl))
theorem aw_ixor {x y : Int32} (hd : Dc M pc (.ixor) 1 pc2) (k : AWq l E d M Z0 pc2 ls (vi (x ^^^ y) :: st) I L R Z Q) : AWq l E d M Z0 pc ls (vi y :: vi x :: st) I L R Z Q := by
  obtain ⟨hd, rfl⟩ := hd
  exact k.lift (fun v1 v2 => ⟨vc1 trivial (vt1 (vt1 v1)), v2⟩) (fun p e Rm s m args below meth c cells slots Qs F als H locs hl v1 hW hS kk => lv_ixor F.1 F.2.1 hd (kk als hl))
theorem aw_ishl {x y : Int32} (hd : Dc M pc (.ishl) 1 pc2) (k : AWq l E d M Z0 pc2 ls (vi (x <<< (y &&& 31)) :: st) I L R Z Q) : AWq l E d M Z0 pc ls (vi y :: vi x :: st) I L R Z Q := by
  obtain ⟨hd, rfl⟩ := hd
  exact k.lift (fun v1 v2 => ⟨vc1 trivial (vt1 (vt1 v1)), v2⟩) (fun p e Rm s m args below meth c cells slots Qs F als H locs hl v1 hW hS kk => lv_ishl F.1 F.2.1 hd (kk als hl))
theorem aw_ishr {x y : Int32} (hd : Dc M pc (.ishr) 1 pc2) (k : AWq l E d M Z0 pc2 ls (vi (x >>> (y &&& 31)) :: st) I L R Z Q) : AWq l E d M Z0 pc ls (vi y :: vi x :: st) I L R Z Q := by
  obtain ⟨hd, rfl⟩ := hd
  exact k.lift (fun v1 v2 => ⟨vc1 trivial (vt1 (vt1 v1)), v2⟩) (fun p e Rm s m args below meth c cells slots Qs F als H locs hl v1 hW hS kk => lv_ishr F.1 F.2.1 hd (kk als hl))
theorem aw_iushr {x y : Int32} (hd : Dc M pc (.iushr) 1 pc2) (k : AWq l E d M Z0 pc2 ls (vi (x.toUInt32 >>> (y.toUInt32 &&& Int32.toUInt32 31)).toInt32 :: st) I L R Z Q) : AWq l E d M Z0 pc ls (vi y :: vi x :: st) I L R Z Q := by
  obtain ⟨hd, rfl⟩ := hd
  exact k.lift (fun v1 v2 => ⟨vc1 trivial (vt1 (vt1 v1)), v2⟩) (fun p e Rm s m args below meth c cells slots Qs F als H locs hl v1 hW hS kk => lv_iushr F.1 F.2.1 hd rfl (kk als hl))
theorem aw_idiv {x y : Int32} (hd : Dc M pc (.idiv) 1 pc2) (hne : ¬ y = 0) (k : AWq l E d M Z0 pc2 ls (vi (x / y) :: st) I L R Z Q) : AWq l E d M Z0 pc ls (vi y :: vi x :: st) I L R Z Q := by
  obtain ⟨hd, rfl⟩ := hd
  exact k.lift (fun v1 v2 => ⟨vc1 trivial (vt1 (vt1 v1)), v2⟩) (fun p e Rm s m args below meth c cells slots Qs F als H locs hl v1 hW hS kk => lv_idiv F.1 F.2.1 hd hne (kk als hl))
theorem aw_irem {x y : Int32} (hd : Dc M pc (.irem) 1 pc2) (hne : ¬ y = 0) (k : AWq l E d M Z0 pc2 ls (vi (x - x / y * y) :: st) I L R Z Q) : AWq l E d M Z0 pc ls (vi y :: vi x :: st) I L R Z Q := by
  obtain ⟨hd, rfl⟩ := hd
  exact k.lift (fun v1 v2 => ⟨vc1 trivial (vt1 (vt1 v1)), v2⟩) (fun p e Rm s m args below meth c cells slots Qs F als H locs hl v1 hW hS kk => lv_irem F.1 F.2.1 hd hne (kk als hl))
theorem aw_ladd {x y : Int64} (hd : Dc M pc (.ladd) 1 pc2) (k : AWq l E d M Z0 pc2 ls (vl (x + y) :: st) I L R Z Q) : AWq l E d M Z0 pc ls (vl y :: vl x :: st) I L R Z Q := by
  obtain ⟨hd, rfl⟩ := hd
  exact k.lift (fun v1 v2 => ⟨vc1 trivial (vt1 (vt1 v1)), v2⟩) (fun p e Rm s m args below meth c cells slots Qs F als H locs hl v1 hW hS kk => lv_ladd F.1 F.2.1 hd (kk als hl))
theorem aw_lsub {x y : Int64} (hd : Dc M pc (.lsub) 1 pc2) (k : AWq l E d M Z0 pc2 ls (vl (x - y) :: st) I L R Z Q) : AWq l E d M Z0 pc ls (vl y :: vl x :: st) I L R Z Q := by
  obtain ⟨hd, rfl⟩ := hd
  exact k.lift (fun v1 v2 => ⟨vc1 trivial (vt1 (vt1 v1)), v2⟩) (fun p e Rm s m args below meth c cells slots Qs F als H locs hl v1 hW hS kk => lv_lsub F.1 F.2.1 hd (kk als hl))
theorem aw_lmul {x y : Int64} (hd : Dc M pc (.lmul) 1 pc2) (k : AWq l E d M Z0 pc2 ls (vl (x * y) :: st) I L R Z Q) : AWq l E d M Z0 pc ls (vl y :: vl x :: st) I L R Z Q := by
  obtain ⟨hd, rfl⟩ := hd
  exact k.lift (fun v1 v2 => ⟨vc1 trivial (vt1 (vt1 v1)), v2⟩) (fun p e Rm s m args below meth c cells slots Qs F als H locs hl v1 hW hS kk => lv_lmul F.1 F.2.1 hd (kk als hl))
theorem aw_ldiv {x y : Int64} (hd : Dc M pc (.ldiv) 1 pc2) (hne : ¬ y = 0) (k : AWq l E d M Z0 pc2 ls (vl (x / y) :: st) I L R Z Q) : AWq l E d M Z0 pc ls (vl y :: vl x :: st) I L R Z Q := by
  obtain ⟨hd, rfl⟩ := hd
  exact k.lift (fun v1 v2 => ⟨vc1 trivial (vt1 (vt1 v1)), v2⟩) (fun p e Rm s m args below meth c cells slots Qs F als H locs hl v1 hW hS kk => lv_ldiv F.1 F.2.1 hd hne (kk als hl))
theorem aw_lrem {x y : Int64} (hd : Dc M pc (.lrem) 1 pc2) (hne : ¬ y = 0) (k : AWq l E d M Z0 pc2 ls (vl (x - x / y * y) :: st) I L R Z Q) : AWq l E d M Z0 pc ls (vl y :: vl x :: st) I L R Z Q := by
  obtain ⟨hd, rfl⟩ := hd
  exact k.lift (fun v1 v2 => ⟨vc1 trivial (vt1 (vt1 v1)), v2⟩) (fun p e Rm s m args below meth c cells slots Qs F als H locs hl v1 hW hS kk => lv_lrem F.1 F.2.1 hd hne (kk als hl))
theorem aw_lcmp {x y : Int64} (hd : Dc M pc (.lcmp) 1 pc2) (k : AWq l E d M Z0 pc2 ls (vi (lg_cmp x y) :: st) I L R Z Q) : AWq l E d M Z0 pc ls (vl y :: vl x :: st) I L R Z Q := by
  obtain ⟨hd, rfl⟩ := hd
  exact k.lift (fun v1 v2 => ⟨vc1 trivial (vt1 (vt1 v1)), v2⟩) (fun p e Rm s m args below meth c cells slots Qs F als H locs hl v1 hW hS kk => W.lcmp F.1 F.2.1 hd (kk als hl))
theorem aw_ineg {x : Int32} (hd : Dc M pc (.ineg) 1 pc2) (k : AWq l E d M Z0 pc2 ls (vi (-x) :: st) I L R Z Q) : AWq l E d M Z0 pc ls (vi x :: st) I L R Z Q := by
  obtain ⟨hd, rfl⟩ := hd
  exact k.lift (fun v1 v2 => ⟨vc1 trivial (vt1 v1), v2⟩) (fun p e Rm s m args below meth c cells slots Qs F als H locs hl v1 hW hS kk => lv_ineg F.1 F.2.1 hd (kk als hl))
theorem aw_lneg {x : Int64} (hd : Dc M pc (.lneg) 1 pc2) (k : AWq l E d M Z0 pc2 ls (vl (-x) :: st) I L R Z Q) : AWq l E d M Z0 pc ls (vl x :: st) I L R Z Q := by
  obtain ⟨hd, rfl⟩ := hd
  exact k.lift (fun v1 v2 => ⟨vc1 trivial (vt1 v1), v2⟩) (fun p e Rm s m args below meth c cells slots Qs F als H locs hl v1 hW hS kk => lv_lneg F.1 F.2.1 hd (kk als hl))
theorem aw_i2l {x : Int32} (hd : Dc M pc (.i2l) 1 pc2) (k : AWq l E d M Z0 pc2 ls (vl (x.toInt64) :: st) I L R Z Q) : AWq l E d M Z0 pc ls (vi x :: st) I L R Z Q := by
  obtain ⟨hd, rfl⟩ := hd
  exact k.lift (fun v1 v2 => ⟨vc1 trivial (vt1 v1), v2⟩) (fun p e Rm s m args below meth c cells slots Qs F als H locs hl v1 hW hS kk => lv_i2l F.1 F.2.1 hd rfl (kk als hl))
theorem aw_i2b {x : Int32} (hd : Dc M pc (.i2b) 1 pc2) (k : AWq l E d M Z0 pc2 ls (vi (x.toInt8.toInt32) :: st) I L R Z Q) : AWq l E d M Z0 pc ls (vi x :: st) I L R Z Q := by
  obtain ⟨hd, rfl⟩ := hd
  exact k.lift (fun v1 v2 => ⟨vc1 trivial (vt1 v1), v2⟩) (fun p e Rm s m args below meth c cells slots Qs F als H locs hl v1 hW hS kk => lv_i2b F.1 F.2.1 hd rfl (kk als hl))
theorem aw_i2s {x : Int32} (hd : Dc M pc (.i2s) 1 pc2) (k : AWq l E d M Z0 pc2 ls (vi (x.toInt16.toInt32) :: st) I L R Z Q) : AWq l E d M Z0 pc ls (vi x :: st) I L R Z Q := by
  obtain ⟨hd, rfl⟩ := hd
  exact k.lift (fun v1 v2 => ⟨vc1 trivial (vt1 v1), v2⟩) (fun p e Rm s m args below meth c cells slots Qs F als H locs hl v1 hW hS kk => lv_i2s F.1 F.2.1 hd rfl (kk als hl))
theorem aw_i2c {x : Int32} (hd : Dc M pc (.i2c) 1 pc2) (k : AWq l E d M Z0 pc2 ls (vi (x.toUInt32 % 65536).toInt32 :: st) I L R Z Q) : AWq l E d M Z0 pc ls (vi x :: st) I L R Z Q := by
  obtain ⟨hd, rfl⟩ := hd
  exact k.lift (fun v1 v2 => ⟨vc1 trivial (vt1 v1), v2⟩) (fun p e Rm s m args below meth c cells slots Qs F als H locs hl v1 hW hS kk => lv_i2c F.1 F.2.1 hd rfl (kk als hl))
theorem aw_l2i {x : Int64} (hd : Dc M pc (.l2i) 1 pc2) (k : AWq l E d M Z0 pc2 ls (vi (x.toInt32) :: st) I L R Z Q) : AWq l E d M Z0 pc ls (vl x :: st) I L R Z Q := by
  obtain ⟨hd, rfl⟩ := hd
  exact k.lift (fun v1 v2 => ⟨vc1 trivial (vt1 v1), v2⟩) (fun p e Rm s m args below meth c cells slots Qs F als H locs hl v1 hW hS kk => lv_l2i F.1 F.2.1 hd rfl (kk als hl))
theorem aw_iconst {n : Int} {v : Int32} (hd : Dc M pc (.iconst n) 1 pc2) (hv : Int32.ofInt n = v) (k : AWq l E d M Z0 pc2 ls (vi v :: st) I L R Z Q) : AWq l E d M Z0 pc ls st I L R Z Q := by
  obtain ⟨hd, rfl⟩ := hd
  exact k.lift (fun v1 v2 => ⟨vc1 trivial v1, v2⟩) (fun p e Rm s m args below meth c cells slots Qs F als H locs hl v1 hW hS kk => lv_iconst F.1 F.2.1 hd hv (kk als hl))
theorem aw_bipush {n : Int} {v : Int32} (hd : Dc M pc (.bipush n) 2 pc2) (hv : (Int8.ofInt n).toInt32 = v) (k : AWq l E d M Z0 pc2 ls (vi v :: st) I L R Z Q) : AWq l E d M Z0 pc ls st I L R Z Q := by
  obtain ⟨hd, rfl⟩ := hd
  exact k.lift (fun v1 v2 => ⟨vc1 trivial v1, v2⟩) (fun p e Rm s m args below meth c cells slots Qs F als H locs hl v1 hW hS kk => lv_bipush F.1 F.2.1 hd hv (kk als hl))
theorem aw_sipush {n : Int} {v : Int32} (hd : Dc M pc (.sipush n) 3 pc2) (hv : (Int16.ofInt n).toInt32 = v) (k : AWq l E d M Z0 pc2 ls (vi v :: st) I L R Z Q) : AWq l E d M Z0 pc ls st I L R Z Q := by
  obtain ⟨hd, rfl⟩ := hd
  exact k.lift (fun v1 v2 => ⟨vc1 trivial v1, v2⟩) (fun p e Rm s m args below meth c cells slots Qs F als H locs hl v1 hW hS kk => lv_sipush F.1 F.2.1 hd hv (kk als hl))
theorem aw_lconst {n : Fin 2} {v : Int64} (hd : Dc M pc (.lconst n) 1 pc2) (hv : Int64.ofNat (n : Nat) = v) (k : AWq l E d M Z0 pc2 ls (vl v :: st) I L R Z Q) : AWq l E d M Z0 pc ls st I L R Z Q := by
  obtain ⟨hd, rfl⟩ := hd
  exact k.lift (fun v1 v2 => ⟨vc1 trivial v1, v2⟩) (fun p e Rm s m args below meth c cells slots Qs F als H locs hl v1 hW hS kk => lv_lconst F.1 F.2.1 hd hv (kk als hl))
theorem aw_anull (hd : Dc M pc (.aconst_null) 1 pc2) (k : AWq l E d M Z0 pc2 ls (vn :: st) I L R Z Q) : AWq l E d M Z0 pc ls st I L R Z Q := by
  obtain ⟨hd, rfl⟩ := hd
  exact k.lift (fun v1 v2 => ⟨vc1 trivial v1, v2⟩) (fun p e Rm s m args below meth c cells slots Qs F als H locs hl v1 hW hS kk => lv_null F.1 F.2.1 hd (kk als hl))
theorem aw_ldc {idx : Nat} {v : Int32} (hd : Dc M pc (.ldc idx) 2 pc2) (hc : Cond.constant M.1.cls idx v ∈ G) (k : AWq l E d M Z0 pc2 ls (vi v :: st) I L R Z Q) : AWq l E d M Z0 pc ls st I L R Z Q := by
  obtain ⟨hd, rfl⟩ := hd
  exact k.lift (fun v1 v2 => ⟨vc1 trivial v1, v2⟩) (fun p e Rm s m args below meth c cells slots Qs F als H locs hl v1 hW hS kk => lv_ldc F.1 F.2.1 F.2.2.2.1 (F.2.2.2.2.1 _ hc) hd (kk als hl))
theorem aw_ldcw {idx : Nat} {v : Int32} (hd : Dc M pc (.ldc_w idx) 3 pc2) (hc : Cond.constant M.1.cls idx v ∈ G) (k : AWq l E d M Z0 pc2 ls (vi v :: st) I L R Z Q) : AWq l E d M Z0 pc ls st I L R Z Q := by
  obtain ⟨hd, rfl⟩ := hd
  exact k.lift (fun v1 v2 => ⟨vc1 trivial v1, v2⟩) (fun p e Rm s m args below meth c cells slots Qs F als H locs hl v1 hW hS kk => lv_ldcw F.1 F.2.1 F.2.2.2.1 (F.2.2.2.2.1 _ hc) hd (kk als hl))
theorem aw_ldc2 {idx : Nat} {v : Int64} (hd : Dc M pc (.ldc2_w idx) 3 pc2) (hc : Cond.constantLong M.1.cls idx v ∈ G) (k : AWq l E d M Z0 pc2 ls (vl v :: st) I L R Z Q) : AWq l E d M Z0 pc ls st I L R Z Q := by
  obtain ⟨hd, rfl⟩ := hd
  exact k.lift (fun v1 v2 => ⟨vc1 trivial v1, v2⟩) (fun p e Rm s m args below meth c cells slots Qs F als H locs hl v1 hW hS kk => lv_ldc2 F.1 F.2.1 F.2.2.2.1 (F.2.2.2.2.1 _ hc) hd (kk als hl))
theorem aw_dup {a : AV} (hd : Dc M pc (.dup) 1 pc2) (ha : isLg (some a) = false := by rfl) (k : AWq l E d M Z0 pc2 ls (a :: a :: st) I L R Z Q) : AWq l E d M Z0 pc ls (a :: st) I L R Z Q := by
  obtain ⟨hd, rfl⟩ := hd
  exact k.lift (fun v1 v2 => ⟨vc1 (vh1 v1) v1, v2⟩) (fun p e Rm s m args below meth c cells slots Qs F als H locs hl v1 hW hS kk => lv_dup F.1 F.2.1 hd (cat1 E ha) (kk als hl))
theorem aw_pop {a : AV} (hd : Dc M pc (.pop) 1 pc2) (ha : isLg (some a) = false := by rfl) (k : AWq l E d M Z0 pc2 ls st I L R Z Q) : AWq l E d M Z0 pc ls (a :: st) I L R Z Q := by
  obtain ⟨hd, rfl⟩ := hd
  exact k.lift (fun v1 v2 => ⟨vt1 v1, v2⟩) (fun p e Rm s m args below meth c cells slots Qs F als H locs hl v1 hW hS kk => lv_pop F.1 F.2.1 hd (cat1 E ha) (kk als hl))
theorem aw_dup2 {a b : AV} (hd : Dc M pc (.dup2) 1 pc2) (ha : isLg (some a) = false := by rfl) (hb : isLg (some b) = false := by rfl) (k : AWq l E d M Z0 pc2 ls (a :: b :: a :: b :: st) I L R Z Q) : AWq l E d M Z0 pc ls (a :: b :: st) I L R Z Q := by
  obtain ⟨hd, rfl⟩ := hd
  exact k.lift (fun v1 v2 => ⟨vc1 (vh1 v1) (vc1 (vh1 (vt1 v1)) v1), v2⟩) (fun p e Rm s m args below meth c cells slots Qs F als H locs hl v1 hW hS kk => lv_dup2_11 F.1 F.2.1 hd (cat1 E ha) (cat1 E hb) (kk als hl))
theorem aw_iload_n {j : Fin 4} {x : Int32} (hd : Dc M pc (.iload_n j) 1 pc2) (hg : ls[(j : Nat)]? = some (some (vi x))) (k : AWq l E d M Z0 pc2 ls (vi x :: st) I L R Z Q) : AWq l E d M Z0 pc ls st I L R Z Q := by
  obtain ⟨hd, rfl⟩ := hd
  exact k.lift (fun v1 v2 => ⟨vc1 trivial v1, v2⟩) (fun p e Rm s m args below meth c cells slots Qs F als H locs hl v1 hW hS kk => lv_iload_n F.1 F.2.1 hd rfl (hl.get hg) (kk als hl))
theorem aw_iload {j : Nat} {x : Int32} (hd : Dc M pc (.iload j) 2 pc2) (hg : ls[j]? = some (some (vi x))) (k : AWq l E d M Z0 pc2 ls (vi x :: st) I L R Z Q) : AWq l E d M Z0 pc ls st I L R Z Q := by
  obtain ⟨hd, rfl⟩ := hd
  exact k.lift (fun v1 v2 => ⟨vc1 trivial v1, v2⟩) (fun p e Rm s m args below meth c cells slots Qs F als H locs hl v1 hW hS kk => lv_iload F.1 F.2.1 hd (hl.get hg) (kk als hl))
theorem aw_lload_n {j : Fin 4} {x : Int64} (hd : Dc M pc (.lload_n j) 1 pc2) (hg : ls[(j : Nat)]? = some (some (vl x))) (k : AWq l E d M Z0 pc2 ls (vl x :: st) I L R Z Q) : AWq l E d M Z0 pc ls st I L R Z Q := by
  obtain ⟨hd, rfl⟩ := hd
  exact k.lift (fun v1 v2 => ⟨vc1 trivial v1, v2⟩) (fun p e Rm s m args below meth c cells slots Qs F als H locs hl v1 hW hS kk => lv_lload_n F.1 F.2.1 hd rfl (hl.get hg) (kk als hl))
theorem aw_lload {j : Nat} {x : Int64} (hd : Dc M pc (.lload j) 2 pc2) (hg : ls[j]? = some (some (vl x))) (k : AWq l E d M Z0 pc2 ls (vl x :: st) I L R Z Q) : AWq l E d M Z0 pc ls st I L R Z Q := by
  obtain ⟨hd, rfl⟩ := hd
  exact k.lift (fun v1 v2 => ⟨vc1 trivial v1, v2⟩) (fun p e Rm s m args below meth c cells slots Qs F als H locs hl v1 hW hS kk => lv_lload F.1 F.2.1 hd (hl.get hg) (kk als hl))
theorem aw_aload_n {j : Fin 4} {t i : Nat} (hd : Dc M pc (.aload_n j) 1 pc2) (hg : ls[(j : Nat)]? = some (some (vr t i))) (k : AWq l E d M Z0 pc2 ls (vr t i :: st) I L R Z Q) : AWq l E d M Z0 pc ls st I L R Z Q := by
  obtain ⟨hd, rfl⟩ := hd
  exact k.lift (fun v1 v2 => ⟨vc1 (v2 _ (List.mem_of_getElem? hg)) v1, v2⟩) (fun p e Rm s m args below meth c cells slots Qs F als H locs hl v1 hW hS kk => lv_aload_n F.1 F.2.1 hd rfl (hl.get hg) (kk als hl))
theorem aw_aload {j : Nat} {t i : Nat} (hd : Dc M pc (.aload j) 2 pc2) (hg : ls[j]? = some (some (vr t i))) (k : AWq l E d M Z0 pc2 ls (vr t i :: st) I L R Z Q) : AWq l E d M Z0 pc ls st I L R Z Q := by
  obtain ⟨hd, rfl⟩ := hd
  exact k.lift (fun v1 v2 => ⟨vc1 (v2 _ (List.mem_of_getElem? hg)) v1, v2⟩) (fun p e Rm s m args below meth c cells slots Qs F als H locs hl v1 hW hS kk => lv_aload F.1 F.2.1 hd (hl.get hg) (kk als hl))
theorem aw_istore_n {j : Fin 4} {x : Int32} (hd : Dc M pc (.istore_n j) 1 pc2) (hj : (j : Nat) < M.2.2.1) (hp : ∀ q, q + 1 = (j : Nat) → isLg (ls.getD q none) = false) (k : AWq l E d M Z0 pc2 (ls.set (j : Nat) (some (vi x))) st I L R Z Q) : AWq l E d M Z0 pc ls (vi x :: st) I L R Z Q := by
  obtain ⟨hd, rfl⟩ := hd
  exact k.lift (fun v1 v2 => ⟨vt1 v1, vset v2 (vh1 v1)⟩) (fun p e Rm s m args below meth c cells slots Qs F als H locs hl v1 hW hS kk => lv_istore_n F.1 F.2.1 hd rfl hl.1 hj rfl (fun als2 hl2 => kk als2 (hl.st1 (v := vi x) hp hl2)))
theorem aw_istore {j : Nat} {x : Int32} (hd : Dc M pc (.istore j) 2 pc2) (hj : j < M.2.2.1) (hp : ∀ q, q + 1 = j → isLg (ls.getD q none) = false) (k : AWq l E d M Z0 pc2 (ls.set j (some (vi x))) st I L R Z Q) : AWq l E d M Z0 pc ls (vi x :: st) I L R Z Q := by
  obtain ⟨hd, rfl⟩ := hd
  exact k.lift (fun v1 v2 => ⟨vt1 v1, vset v2 (vh1 v1)⟩) (fun p e Rm s m args below meth c cells slots Qs F als H locs hl v1 hW hS kk => lv_istore F.1 F.2.1 hd hl.1 hj rfl (fun als2 hl2 => kk als2 (hl.st1 (v := vi x) hp hl2)))
theorem aw_astore_n {j : Fin 4} {t i : Nat} (hd : Dc M pc (.astore_n j) 1 pc2) (hj : (j : Nat) < M.2.2.1) (hp : ∀ q, q + 1 = (j : Nat) → isLg (ls.getD q none) = false) (k : AWq l E d M Z0 pc2 (ls.set (j : Nat) (some (vr t i))) st I L R Z Q) : AWq l E d M Z0 pc ls (vr t i :: st) I L R Z Q := by
  obtain ⟨hd, rfl⟩ := hd
  exact k.lift (fun v1 v2 => ⟨vt1 v1, vset v2 (vh1 v1)⟩) (fun p e Rm s m args below meth c cells slots Qs F als H locs hl v1 hW hS kk => lv_astore_n F.1 F.2.1 hd rfl hl.1 hj rfl (fun als2 hl2 => kk als2 (hl.st1 (v := vr t i) hp hl2)))
theorem aw_astore {j : Nat} {t i : Nat} (hd : Dc M pc (.astore j) 2 pc2) (hj : j < M.2.2.1) (hp : ∀ q, q + 1 = j → isLg (ls.getD q none) = false) (k : AWq l E d M Z0 pc2 (ls.set j (some (vr t i))) st I L R Z Q) : AWq l E d M Z0 pc ls (vr t i :: st) I L R Z Q := by
  obtain ⟨hd, rfl⟩ := hd
  exact k.lift (fun v1 v2 => ⟨vt1 v1, vset v2 (vh1 v1)⟩) (fun p e Rm s m args below meth c cells slots Qs F als H locs hl v1 hW hS kk => lv_astore F.1 F.2.1 hd hl.1 hj rfl (fun als2 hl2 => kk als2 (hl.st1 (v := vr t i) hp hl2)))
theorem aw_lstore_n {j : Fin 4} {x : Int64} (hd : Dc M pc (.lstore_n j) 1 pc2) (hj : (j : Nat) + 1 < M.2.2.1) (hp : ∀ q, q + 1 = (j : Nat) → isLg (ls.getD q none) = false) (k : AWq l E d M Z0 pc2 ((ls.set (j : Nat) (some (vl x))).set ((j : Nat) + 1) none) st I L R Z Q) : AWq l E d M Z0 pc ls (vl x :: st) I L R Z Q := by
  obtain ⟨hd, rfl⟩ := hd
  exact k.lift (fun v1 v2 => ⟨vt1 v1, vsetN (vset v2 (vh1 v1))⟩) (fun p e Rm s m args below meth c cells slots Qs F als H locs hl v1 hW hS kk => lv_lstore_n F.1 F.2.1 hd rfl hl.1 hj rfl (fun als2 hl2 => kk als2 (hl.st2 (v := vl x) hp hl2)))
theorem aw_lstore {j : Nat} {x : Int64} (hd : Dc M pc (.lstore j) 2 pc2) (hj : j + 1 < M.2.2.1) (hp : ∀ q, q + 1 = j → isLg (ls.getD q none) = false) (k : AWq l E d M Z0 pc2 ((ls.set j (some (vl x))).set (j + 1) none) st I L R Z Q) : AWq l E d M Z0 pc ls (vl x :: st) I L R Z Q := by
  obtain ⟨hd, rfl⟩ := hd
  exact k.lift (fun v1 v2 => ⟨vt1 v1, vsetN (vset v2 (vh1 v1))⟩) (fun p e Rm s m args below meth c cells slots Qs F als H locs hl v1 hW hS kk => lv_lstore F.1 F.2.1 hd hl.1 hj rfl (fun als2 hl2 => kk als2 (hl.st2 (v := vl x) hp hl2)))
theorem aw_iinc {j : Nat} {n : Int} {x v : Int32} (hd : Dc M pc (.iinc j n) 3 pc2) (hg : ls[j]? = some (some (vi x))) (hj : j < M.2.2.1) (hp : ∀ q, q + 1 = j → isLg (ls.getD q none) = false) (hv : x + Int32.ofInt n = v) (k : AWq l E d M Z0 pc2 (ls.set j (some (vi v))) st I L R Z Q) : AWq l E d M Z0 pc ls st I L R Z Q := by
  obtain ⟨hd, rfl⟩ := hd
  refine k.lift (fun v1 v2 => ⟨v1, vset v2 trivial⟩) (fun p e Rm s m args below meth c cells slots Qs F als H locs hl v1 hW hS kk => ?_)
  have h1 : (j, vi x) ∈ lvP ls 0 := (lvP_mem ls 0 j).mpr ⟨j, by omega, hg⟩
  obtain ⟨q, hq⟩ := List.getElem?_of_mem (List.mem_map.mpr ⟨(j, vi x), h1, rfl⟩ : (j, cv E (vi x)) ∈ (lvP ls 0).map fun q => (q.1, cv E q.2))
  exact lv_iinc F.1 F.2.1 hd hl.1 hq hv hj rfl (fun als2 hl2 => kk als2 (hl.st1 (v := vi v) hp hl2))
theorem aw_icmp_eq {x y : Int32} {off : Int} (hd : Db M pc (.if_icmp .eq off) off tgt pc2) (kt : x = y → AWq l E d M Z0 tgt ls st I L R Z Q) (kf : ¬ x = y → AWq l E d M Z0 pc2 ls st I L R Z Q) : AWq l E d M Z0 pc ls (vi y :: vi x :: st) I L R Z Q := by
  obtain ⟨hd, rfl, ht⟩ := hd
  by_cases hc : x = y
  · exact (kt hc).lift (fun v1 v2 => ⟨vt1 (vt1 v1), v2⟩) (fun p e Rm s m args below meth c cells slots Qs F als H locs hl v1 hW hS kk => lv_icmp_eq F.1 F.2.1 hd ht (fun _ => kk als hl) (fun h => absurd hc h))
  · exact (kf hc).lift (fun v1 v2 => ⟨vt1 (vt1 v1), v2⟩) (fun p e Rm s m args below meth c cells slots Qs F als H locs hl v1 hW hS kk => lv_icmp_eq F.1 F.2.1 hd ht (fun h => absurd h hc) (fun _ => kk als hl))
theorem aw_icmp_ne {x y : Int32} {off : Int} (hd : Db M pc (.if_icmp .ne off) off tgt pc2) (kt : ¬ x = y → AWq l E d M Z0 tgt ls st I L R Z Q) (kf : x = y → AWq l E d M Z0 pc2 ls st I L R Z Q) : AWq l E d M Z0 pc ls (vi y :: vi x :: st) I L R Z Q := by
  obtain ⟨hd, rfl, ht⟩ := hd
  by_cases hc : x = y
  · exact (kf hc).lift (fun v1 v2 => ⟨vt1 (vt1 v1), v2⟩) (fun p e Rm s m args below meth c cells slots Qs F als H locs hl v1 hW hS kk => lv_icmp_ne F.1 F.2.1 hd ht (fun h => absurd hc h) (fun _ => kk als hl))
  · exact (kt hc).lift (fun v1 v2 => ⟨vt1 (vt1 v1), v2⟩) (fun p e Rm s m args below meth c cells slots Qs F als H locs hl v1 hW hS kk => lv_icmp_ne F.1 F.2.1 hd ht (fun _ => kk als hl) (fun h => absurd h hc))
theorem aw_icmp_lt {x y : Int32} {off : Int} (hd : Db M pc (.if_icmp .lt off) off tgt pc2) (kt : x < y → AWq l E d M Z0 tgt ls st I L R Z Q) (kf : ¬ x < y → AWq l E d M Z0 pc2 ls st I L R Z Q) : AWq l E d M Z0 pc ls (vi y :: vi x :: st) I L R Z Q := by
  obtain ⟨hd, rfl, ht⟩ := hd
  by_cases hc : x < y
  · exact (kt hc).lift (fun v1 v2 => ⟨vt1 (vt1 v1), v2⟩) (fun p e Rm s m args below meth c cells slots Qs F als H locs hl v1 hW hS kk => lv_icmp_lt F.1 F.2.1 hd ht (fun _ => kk als hl) (fun h => absurd hc h))
  · exact (kf hc).lift (fun v1 v2 => ⟨vt1 (vt1 v1), v2⟩) (fun p e Rm s m args below meth c cells slots Qs F als H locs hl v1 hW hS kk => lv_icmp_lt F.1 F.2.1 hd ht (fun h => absurd h hc) (fun _ => kk als hl))
theorem aw_icmp_ge {x y : Int32} {off : Int} (hd : Db M pc (.if_icmp .ge off) off tgt pc2) (kt : y ≤ x → AWq l E d M Z0 tgt ls st I L R Z Q) (kf : ¬ y ≤ x → AWq l E d M Z0 pc2 ls st I L R Z Q) : AWq l E d M Z0 pc ls (vi y :: vi x :: st) I L R Z Q := by
  obtain ⟨hd, rfl, ht⟩ := hd
  by_cases hc : y ≤ x
  · exact (kt hc).lift (fun v1 v2 => ⟨vt1 (vt1 v1), v2⟩) (fun p e Rm s m args below meth c cells slots Qs F als H locs hl v1 hW hS kk => lv_icmp_ge F.1 F.2.1 hd ht (fun _ => kk als hl) (fun h => absurd hc h))
  · exact (kf hc).lift (fun v1 v2 => ⟨vt1 (vt1 v1), v2⟩) (fun p e Rm s m args below meth c cells slots Qs F als H locs hl v1 hW hS kk => lv_icmp_ge F.1 F.2.1 hd ht (fun h => absurd h hc) (fun _ => kk als hl))
theorem aw_icmp_gt {x y : Int32} {off : Int} (hd : Db M pc (.if_icmp .gt off) off tgt pc2) (kt : y < x → AWq l E d M Z0 tgt ls st I L R Z Q) (kf : ¬ y < x → AWq l E d M Z0 pc2 ls st I L R Z Q) : AWq l E d M Z0 pc ls (vi y :: vi x :: st) I L R Z Q := by
  obtain ⟨hd, rfl, ht⟩ := hd
  by_cases hc : y < x
  · exact (kt hc).lift (fun v1 v2 => ⟨vt1 (vt1 v1), v2⟩) (fun p e Rm s m args below meth c cells slots Qs F als H locs hl v1 hW hS kk => lv_icmp_gt F.1 F.2.1 hd ht (fun _ => kk als hl) (fun h => absurd hc h))
  · exact (kf hc).lift (fun v1 v2 => ⟨vt1 (vt1 v1), v2⟩) (fun p e Rm s m args below meth c cells slots Qs F als H locs hl v1 hW hS kk => lv_icmp_gt F.1 F.2.1 hd ht (fun h => absurd h hc) (fun _ => kk als hl))
theorem aw_icmp_le {x y : Int32} {off : Int} (hd : Db M pc (.if_icmp .le off) off tgt pc2) (kt : x ≤ y → AWq l E d M Z0 tgt ls st I L R Z Q) (kf : ¬ x ≤ y → AWq l E d M Z0 pc2 ls st I L R Z Q) : AWq l E d M Z0 pc ls (vi y :: vi x :: st) I L R Z Q := by
  obtain ⟨hd, rfl, ht⟩ := hd
  by_cases hc : x ≤ y
  · exact (kt hc).lift (fun v1 v2 => ⟨vt1 (vt1 v1), v2⟩) (fun p e Rm s m args below meth c cells slots Qs F als H locs hl v1 hW hS kk => lv_icmp_le F.1 F.2.1 hd ht (fun _ => kk als hl) (fun h => absurd hc h))
  · exact (kf hc).lift (fun v1 v2 => ⟨vt1 (vt1 v1), v2⟩) (fun p e Rm s m args below meth c cells slots Qs F als H locs hl v1 hW hS kk => lv_icmp_le F.1 F.2.1 hd ht (fun h => absurd h hc) (fun _ => kk als hl))
theorem aw_if_eq {x : Int32} {off : Int} (hd : Db M pc (.ifCond .eq off) off tgt pc2) (kt : x = 0 → AWq l E d M Z0 tgt ls st I L R Z Q) (kf : ¬ x = 0 → AWq l E d M Z0 pc2 ls st I L R Z Q) : AWq l E d M Z0 pc ls (vi x :: st) I L R Z Q := by
  obtain ⟨hd, rfl, ht⟩ := hd
  by_cases hc : x = 0
  · exact (kt hc).lift (fun v1 v2 => ⟨vt1 v1, v2⟩) (fun p e Rm s m args below meth c cells slots Qs F als H locs hl v1 hW hS kk => lv_if_eq F.1 F.2.1 hd ht (fun _ => kk als hl) (fun h => absurd hc h))
  · exact (kf hc).lift (fun v1 v2 => ⟨vt1 v1, v2⟩) (fun p e Rm s m args below meth c cells slots Qs F als H locs hl v1 hW hS kk => lv_if_eq F.1 F.2.1 hd ht (fun h => absurd h hc) (fun _ => kk als hl))
theorem aw_if_ne {x : Int32} {off : Int} (hd : Db M pc (.ifCond .ne off) off tgt pc2) (kt : ¬ x = 0 → AWq l E d M Z0 tgt ls st I L R Z Q) (kf : x = 0 → AWq l E d M Z0 pc2 ls st I L R Z Q) : AWq l E d M Z0 pc ls (vi x :: st) I L R Z Q := by
  obtain ⟨hd, rfl, ht⟩ := hd
  by_cases hc : x = 0
  · exact (kf hc).lift (fun v1 v2 => ⟨vt1 v1, v2⟩) (fun p e Rm s m args below meth c cells slots Qs F als H locs hl v1 hW hS kk => lv_if_ne F.1 F.2.1 hd ht (fun h => absurd hc h) (fun _ => kk als hl))
  · exact (kt hc).lift (fun v1 v2 => ⟨vt1 v1, v2⟩) (fun p e Rm s m args below meth c cells slots Qs F als H locs hl v1 hW hS kk => lv_if_ne F.1 F.2.1 hd ht (fun _ => kk als hl) (fun h => absurd h hc))
theorem aw_if_lt {x : Int32} {off : Int} (hd : Db M pc (.ifCond .lt off) off tgt pc2) (kt : x < 0 → AWq l E d M Z0 tgt ls st I L R Z Q) (kf : ¬ x < 0 → AWq l E d M Z0 pc2 ls st I L R Z Q) : AWq l E d M Z0 pc ls (vi x :: st) I L R Z Q := by
  obtain ⟨hd, rfl, ht⟩ := hd
  by_cases hc : x < 0
  · exact (kt hc).lift (fun v1 v2 => ⟨vt1 v1, v2⟩) (fun p e Rm s m args below meth c cells slots Qs F als H locs hl v1 hW hS kk => lv_if_lt F.1 F.2.1 hd ht (fun _ => kk als hl) (fun h => absurd hc h))
  · exact (kf hc).lift (fun v1 v2 => ⟨vt1 v1, v2⟩) (fun p e Rm s m args below meth c cells slots Qs F als H locs hl v1 hW hS kk => lv_if_lt F.1 F.2.1 hd ht (fun h => absurd h hc) (fun _ => kk als hl))
theorem aw_if_ge {x : Int32} {off : Int} (hd : Db M pc (.ifCond .ge off) off tgt pc2) (kt : 0 ≤ x → AWq l E d M Z0 tgt ls st I L R Z Q) (kf : ¬ 0 ≤ x → AWq l E d M Z0 pc2 ls st I L R Z Q) : AWq l E d M Z0 pc ls (vi x :: st) I L R Z Q := by
  obtain ⟨hd, rfl, ht⟩ := hd
  by_cases hc : 0 ≤ x
  · exact (kt hc).lift (fun v1 v2 => ⟨vt1 v1, v2⟩) (fun p e Rm s m args below meth c cells slots Qs F als H locs hl v1 hW hS kk => lv_if_ge F.1 F.2.1 hd ht (fun _ => kk als hl) (fun h => absurd hc h))
  · exact (kf hc).lift (fun v1 v2 => ⟨vt1 v1, v2⟩) (fun p e Rm s m args below meth c cells slots Qs F als H locs hl v1 hW hS kk => lv_if_ge F.1 F.2.1 hd ht (fun h => absurd h hc) (fun _ => kk als hl))
theorem aw_if_gt {x : Int32} {off : Int} (hd : Db M pc (.ifCond .gt off) off tgt pc2) (kt : 0 < x → AWq l E d M Z0 tgt ls st I L R Z Q) (kf : ¬ 0 < x → AWq l E d M Z0 pc2 ls st I L R Z Q) : AWq l E d M Z0 pc ls (vi x :: st) I L R Z Q := by
  obtain ⟨hd, rfl, ht⟩ := hd
  by_cases hc : 0 < x
  · exact (kt hc).lift (fun v1 v2 => ⟨vt1 v1, v2⟩) (fun p e Rm s m args below meth c cells slots Qs F als H locs hl v1 hW hS kk => lv_if_gt F.1 F.2.1 hd ht (fun _ => kk als hl) (fun h => absurd hc h))
  · exact (kf hc).lift (fun v1 v2 => ⟨vt1 v1, v2⟩) (fun p e Rm s m args below meth c cells slots Qs F als H locs hl v1 hW hS kk => lv_if_gt F.1 F.2.1 hd ht (fun h => absurd h hc) (fun _ => kk als hl))
theorem aw_if_le {x : Int32} {off : Int} (hd : Db M pc (.ifCond .le off) off tgt pc2) (kt : x ≤ 0 → AWq l E d M Z0 tgt ls st I L R Z Q) (kf : ¬ x ≤ 0 → AWq l E d M Z0 pc2 ls st I L R Z Q) : AWq l E d M Z0 pc ls (vi x :: st) I L R Z Q := by
  obtain ⟨hd, rfl, ht⟩ := hd
  by_cases hc : x ≤ 0
  · exact (kt hc).lift (fun v1 v2 => ⟨vt1 v1, v2⟩) (fun p e Rm s m args below meth c cells slots Qs F als H locs hl v1 hW hS kk => lv_if_le F.1 F.2.1 hd ht (fun _ => kk als hl) (fun h => absurd hc h))
  · exact (kf hc).lift (fun v1 v2 => ⟨vt1 v1, v2⟩) (fun p e Rm s m args below meth c cells slots Qs F als H locs hl v1 hW hS kk => lv_if_le F.1 F.2.1 hd ht (fun h => absurd h hc) (fun _ => kk als hl))
theorem aw_goto {off : Int} (hd : Db M pc (.goto off) off tgt pc2) (k : AWq l E d M Z0 tgt ls st I L R Z Q) : AWq l E d M Z0 pc ls st I L R Z Q :=
  k.lift (fun v1 v2 => ⟨v1, v2⟩) (fun p e Rm s m args below meth c cells slots Qs F als H locs hl v1 hW hS kk => lv_goto F.1 F.2.1 hd.1 hd.2.2 (kk als hl))
theorem aw_ifnull {t i : Nat} {off : Int} (hd : Db M pc (.ifnull off) off tgt pc2) (k : AWq l E d M Z0 pc2 ls st I L R Z Q) : AWq l E d M Z0 pc ls (vr t i :: st) I L R Z Q := by
  obtain ⟨hd, rfl, ht⟩ := hd
  exact k.lift (fun v1 v2 => ⟨vt1 v1, v2⟩) (fun p e Rm s m args below meth c cells slots Qs F als H locs hl v1 hW hS kk => lv_ifnull F.1 F.2.1 hd (kk als hl))
theorem aw_ifnullN {off : Int} (hd : Db M pc (.ifnull off) off tgt pc2) (k : AWq l E d M Z0 tgt ls st I L R Z Q) : AWq l E d M Z0 pc ls (vn :: st) I L R Z Q := by
  obtain ⟨hd, rfl, ht⟩ := hd
  exact k.lift (fun v1 v2 => ⟨vt1 v1, v2⟩) (fun p e Rm s m args below meth c cells slots Qs F als H locs hl v1 hW hS kk => lv_ifnullN F.1 F.2.1 hd ht (kk als hl))
theorem aw_ifnn {t i : Nat} {off : Int} (hd : Db M pc (.ifnonnull off) off tgt pc2) (k : AWq l E d M Z0 tgt ls st I L R Z Q) : AWq l E d M Z0 pc ls (vr t i :: st) I L R Z Q := by
  obtain ⟨hd, rfl, ht⟩ := hd
  exact k.lift (fun v1 v2 => ⟨vt1 v1, v2⟩) (fun p e Rm s m args below meth c cells slots Qs F als H locs hl v1 hW hS kk => lv_ifnonnull F.1 F.2.1 hd ht (kk als hl))
theorem aw_ifnnN {off : Int} (hd : Db M pc (.ifnonnull off) off tgt pc2) (k : AWq l E d M Z0 pc2 ls st I L R Z Q) : AWq l E d M Z0 pc ls (vn :: st) I L R Z Q := by
  obtain ⟨hd, rfl, ht⟩ := hd
  exact k.lift (fun v1 v2 => ⟨vt1 v1, v2⟩) (fun p e Rm s m args below meth c cells slots Qs F als H locs hl v1 hW hS kk => lv_ifnonnullN F.1 F.2.1 hd (kk als hl))
theorem aw_aloadN {j : Fin 4} (hd : Dc M pc (.aload_n j) 1 pc2) (hg : ls[(j : Nat)]? = some (some vn)) (k : AWq l E d M Z0 pc2 ls (vn :: st) I L R Z Q) : AWq l E d M Z0 pc ls st I L R Z Q := by
  obtain ⟨hd, rfl⟩ := hd
  exact k.lift (fun v1 v2 => ⟨vc1 trivial v1, v2⟩) (fun p e Rm s m args below meth c cells slots Qs F als H locs hl v1 hW hS kk => lv_aload_nN F.1 F.2.1 hd rfl (hl.get hg) (kk als hl))
theorem aw_astoreN {j : Fin 4} (hd : Dc M pc (.astore_n j) 1 pc2) (hj : (j : Nat) < M.2.2.1) (hp : ∀ q, q + 1 = (j : Nat) → isLg (ls.getD q none) = false) (k : AWq l E d M Z0 pc2 (ls.set (j : Nat) (some vn)) st I L R Z Q) : AWq l E d M Z0 pc ls (vn :: st) I L R Z Q := by
  obtain ⟨hd, rfl⟩ := hd
  exact k.lift (fun v1 v2 => ⟨vt1 v1, vset v2 trivial⟩) (fun p e Rm s m args below meth c cells slots Qs F als H locs hl v1 hW hS kk => lv_astore_nN F.1 F.2.1 hd rfl hl.1 hj rfl (fun als2 hl2 => kk als2 (hl.st1 (v := vn) hp hl2)))
theorem aw_tsIn {dflt lo hi : Int} {offs : Array Int} {len : Nat} {x : Int32} {off : Int} (hd : Dc M pc (.tableswitch dflt lo hi offs) len pc2) (h1 : ¬ x.toInt < lo) (h2 : ¬ hi < x.toInt) (ho : offs[(x.toInt - lo).toNat]? = some off) (ht : (pc : Int) + off = (tgt : Int)) (k : AWq l E d M Z0 tgt ls st I L R Z Q) : AWq l E d M Z0 pc ls (vi x :: st) I L R Z Q :=
  k.lift (fun v1 v2 => ⟨vt1 v1, v2⟩) (fun p e Rm s m args below meth c cells slots Qs F als H locs hl v1 hW hS kk => lv_tableIn F.1 F.2.1 hd.1 h1 h2 ho ht (kk als hl))
theorem aw_tsOut {dflt lo hi : Int} {offs : Array Int} {len : Nat} {x : Int32} (hd : Dc M pc (.tableswitch dflt lo hi offs) len pc2) (h : x.toInt < lo ∨ hi < x.toInt) (ht : (pc : Int) + dflt = (tgt : Int)) (k : AWq l E d M Z0 tgt ls st I L R Z Q) : AWq l E d M Z0 pc ls (vi x :: st) I L R Z Q :=
  k.lift (fun v1 v2 => ⟨vt1 v1, v2⟩) (fun p e Rm s m args below meth c cells slots Qs F als H locs hl v1 hW hS kk => lv_tableOut F.1 F.2.1 hd.1 h ht (kk als hl))
theorem aw_ist0 {x : Int32} {b : Option AV} {t : List (Option AV)} (hd : Dc M pc (.istore_n 0) 1 pc2) (k : AWq l E d M Z0 pc2 (some (vi x) :: t) st I L R Z Q) (hj : 0 < M.2.2.1 := by decide) : AWq l E d M Z0 pc (b :: t) (vi x :: st) I L R Z Q :=
  aw_istore_n (j := 0) hd hj (fun q hq => absurd hq (Nat.succ_ne_zero q)) k
theorem aw_ist0w {x : Int32} {b : Option AV} {t : List (Option AV)} (hd : Dc M pc (.istore 0) 2 pc2) (k : AWq l E d M Z0 pc2 (some (vi x) :: t) st I L R Z Q) (hj : 0 < M.2.2.1 := by decide) : AWq l E d M Z0 pc (b :: t) (vi x :: st) I L R Z Q :=
  aw_istore (j := 0) hd hj (fun q hq => absurd hq (Nat.succ_ne_zero q)) k
theorem aw_ast0 {r i : Nat} {b : Option AV} {t : List (Option AV)} (hd : Dc M pc (.astore_n 0) 1 pc2) (k : AWq l E d M Z0 pc2 (some (vr r i) :: t) st I L R Z Q) (hj : 0 < M.2.2.1 := by decide) : AWq l E d M Z0 pc (b :: t) (vr r i :: st) I L R Z Q :=
  aw_astore_n (j := 0) hd hj (fun q hq => absurd hq (Nat.succ_ne_zero q)) k
theorem aw_ast0w {r i : Nat} {b : Option AV} {t : List (Option AV)} (hd : Dc M pc (.astore 0) 2 pc2) (k : AWq l E d M Z0 pc2 (some (vr r i) :: t) st I L R Z Q) (hj : 0 < M.2.2.1 := by decide) : AWq l E d M Z0 pc (b :: t) (vr r i :: st) I L R Z Q :=
  aw_astore (j := 0) hd hj (fun q hq => absurd hq (Nat.succ_ne_zero q)) k
theorem aw_inc0 {x v : Int32} {n : Int} {t : List (Option AV)} (hd : Dc M pc (.iinc 0 n) 3 pc2) (hv : x + Int32.ofInt n = v) (k : AWq l E d M Z0 pc2 (some (vi v) :: t) st I L R Z Q) (hj : 0 < M.2.2.1 := by decide) : AWq l E d M Z0 pc (some (vi x) :: t) st I L R Z Q :=
  aw_iinc hd rfl hj (fun q hq => absurd hq (Nat.succ_ne_zero q)) hv k
theorem aw_lst0 {x : Int64} {b b2 : Option AV} {t : List (Option AV)} (hd : Dc M pc (.lstore_n 0) 1 pc2) (k : AWq l E d M Z0 pc2 (some (vl x) :: none :: t) st I L R Z Q) (hj : 0 + 1 < M.2.2.1 := by decide) : AWq l E d M Z0 pc (b :: b2 :: t) (vl x :: st) I L R Z Q :=
  aw_lstore_n (j := 0) hd hj (fun q hq => absurd hq (Nat.succ_ne_zero q)) k
theorem aw_lst0w {x : Int64} {b b2 : Option AV} {t : List (Option AV)} (hd : Dc M pc (.lstore 0) 2 pc2) (k : AWq l E d M Z0 pc2 (some (vl x) :: none :: t) st I L R Z Q) (hj : 0 + 1 < M.2.2.1 := by decide) : AWq l E d M Z0 pc (b :: b2 :: t) (vl x :: st) I L R Z Q :=
  aw_lstore (j := 0) hd hj (fun q hq => absurd hq (Nat.succ_ne_zero q)) k
theorem aw_ist1 {x : Int32} {a0 b : Option AV} {t : List (Option AV)} (hd : Dc M pc (.istore_n 1) 1 pc2) (k : AWq l E d M Z0 pc2 (a0 :: some (vi x) :: t) st I L R Z Q) (hj : 1 < M.2.2.1 := by decide) (hp : isLg a0 = false := by rfl) : AWq l E d M Z0 pc (a0 :: b :: t) (vi x :: st) I L R Z Q :=
  aw_istore_n (j := 1) hd hj (hpS (k := 0) rfl hp) k
theorem aw_ist1w {x : Int32} {a0 b : Option AV} {t : List (Option AV)} (hd : Dc M pc (.istore 1) 2 pc2) (k : AWq l E d M Z0 pc2 (a0 :: some (vi x) :: t) st I L R Z Q) (hj : 1 < M.2.2.1 := by decide) (hp : isLg a0 = false := by rfl) : AWq l E d M Z0 pc (a0 :: b :: t) (vi x :: st) I L R Z Q :=
  aw_istore (j := 1) hd hj (hpS (k := 0) rfl hp) k
theorem aw_ast1 {r i : Nat} {a0 b : Option AV} {t : List (Option AV)} (hd : Dc M pc (.astore_n 1) 1 pc2) (k : AWq l E d M Z0 pc2 (a0 :: some (vr r i) :: t) st I L R Z Q) (hj : 1 < M.2.2.1 := by decide) (hp : isLg a0 = false := by rfl) : AWq l E d M Z0 pc (a0 :: b :: t) (vr r i :: st) I L R Z Q :=
  aw_astore_n (j := 1) hd hj (hpS (k := 0) rfl hp) k
theorem aw_ast1w {r i : Nat} {a0 b : Option AV} {t : List (Option AV)} (hd : Dc M pc (.astore 1) 2 pc2) (k : AWq l E d M Z0 pc2 (a0 :: some (vr r i) :: t) st I L R Z Q) (hj : 1 < M.2.2.1 := by decide) (hp : isLg a0 = false := by rfl) : AWq l E d M Z0 pc (a0 :: b :: t) (vr r i :: st) I L R Z Q :=
  aw_astore (j := 1) hd hj (hpS (k := 0) rfl hp) k
theorem aw_inc1 {x v : Int32} {n : Int} {a0 : Option AV} {t : List (Option AV)} (hd : Dc M pc (.iinc 1 n) 3 pc2) (hv : x + Int32.ofInt n = v) (k : AWq l E d M Z0 pc2 (a0 :: some (vi v) :: t) st I L R Z Q) (hj : 1 < M.2.2.1 := by decide) (hp : isLg a0 = false := by rfl) : AWq l E d M Z0 pc (a0 :: some (vi x) :: t) st I L R Z Q :=
  aw_iinc hd rfl hj (hpS (k := 0) rfl hp) hv k
theorem aw_lst1 {x : Int64} {a0 b b2 : Option AV} {t : List (Option AV)} (hd : Dc M pc (.lstore_n 1) 1 pc2) (k : AWq l E d M Z0 pc2 (a0 :: some (vl x) :: none :: t) st I L R Z Q) (hj : 1 + 1 < M.2.2.1 := by decide) (hp : isLg a0 = false := by rfl) : AWq l E d M Z0 pc (a0 :: b :: b2 :: t) (vl x :: st) I L R Z Q :=
  aw_lstore_n (j := 1) hd hj (hpS (k := 0) rfl hp) k
theorem aw_lst1w {x : Int64} {a0 b b2 : Option AV} {t : List (Option AV)} (hd : Dc M pc (.lstore 1) 2 pc2) (k : AWq l E d M Z0 pc2 (a0 :: some (vl x) :: none :: t) st I L R Z Q) (hj : 1 + 1 < M.2.2.1 := by decide) (hp : isLg a0 = false := by rfl) : AWq l E d M Z0 pc (a0 :: b :: b2 :: t) (vl x :: st) I L R Z Q :=
  aw_lstore (j := 1) hd hj (hpS (k := 0) rfl hp) k
theorem aw_ist2 {x : Int32} {a0 a1 b : Option AV} {t : List (Option AV)} (hd : Dc M pc (.istore_n 2) 1 pc2) (k : AWq l E d M Z0 pc2 (a0 :: a1 :: some (vi x) :: t) st I L R Z Q) (hj : 2 < M.2.2.1 := by decide) (hp : isLg a1 = false := by rfl) : AWq l E d M Z0 pc (a0 :: a1 :: b :: t) (vi x :: st) I L R Z Q :=
  aw_istore_n (j := 2) hd hj (hpS (k := 1) rfl hp) k
theorem aw_ist2w {x : Int32} {a0 a1 b : Option AV} {t : List (Option AV)} (hd : Dc M pc (.istore 2) 2 pc2) (k : AWq l E d M Z0 pc2 (a0 :: a1 :: some (vi x) :: t) st I L R Z Q) (hj : 2 < M.2.2.1 := by decide) (hp : isLg a1 = false := by rfl) : AWq l E d M Z0 pc (a0 :: a1 :: b :: t) (vi x :: st) I L R Z Q :=
  aw_istore (j := 2) hd hj (hpS (k := 1) rfl hp) k
theorem aw_ast2 {r i : Nat} {a0 a1 b : Option AV} {t : List (Option AV)} (hd : Dc M pc (.astore_n 2) 1 pc2) (k : AWq l E d M Z0 pc2 (a0 :: a1 :: some (vr r i) :: t) st I L R Z Q) (hj : 2 < M.2.2.1 := by decide) (hp : isLg a1 = false := by rfl) : AWq l E d M Z0 pc (a0 :: a1 :: b :: t) (vr r i :: st) I L R Z Q :=
  aw_astore_n (j := 2) hd hj (hpS (k := 1) rfl hp) k
theorem aw_ast2w {r i : Nat} {a0 a1 b : Option AV} {t : List (Option AV)} (hd : Dc M pc (.astore 2) 2 pc2) (k : AWq l E d M Z0 pc2 (a0 :: a1 :: some (vr r i) :: t) st I L R Z Q) (hj : 2 < M.2.2.1 := by decide) (hp : isLg a1 = false := by rfl) : AWq l E d M Z0 pc (a0 :: a1 :: b :: t) (vr r i :: st) I L R Z Q :=
  aw_astore (j := 2) hd hj (hpS (k := 1) rfl hp) k
theorem aw_inc2 {x v : Int32} {n : Int} {a0 a1 : Option AV} {t : List (Option AV)} (hd : Dc M pc (.iinc 2 n) 3 pc2) (hv : x + Int32.ofInt n = v) (k : AWq l E d M Z0 pc2 (a0 :: a1 :: some (vi v) :: t) st I L R Z Q) (hj : 2 < M.2.2.1 := by decide) (hp : isLg a1 = false := by rfl) : AWq l E d M Z0 pc (a0 :: a1 :: some (vi x) :: t) st I L R Z Q :=
  aw_iinc hd rfl hj (hpS (k := 1) rfl hp) hv k
theorem aw_lst2 {x : Int64} {a0 a1 b b2 : Option AV} {t : List (Option AV)} (hd : Dc M pc (.lstore_n 2) 1 pc2) (k : AWq l E d M Z0 pc2 (a0 :: a1 :: some (vl x) :: none :: t) st I L R Z Q) (hj : 2 + 1 < M.2.2.1 := by decide) (hp : isLg a1 = false := by rfl) : AWq l E d M Z0 pc (a0 :: a1 :: b :: b2 :: t) (vl x :: st) I L R Z Q :=
  aw_lstore_n (j := 2) hd hj (hpS (k := 1) rfl hp) k
theorem aw_lst2w {x : Int64} {a0 a1 b b2 : Option AV} {t : List (Option AV)} (hd : Dc M pc (.lstore 2) 2 pc2) (k : AWq l E d M Z0 pc2 (a0 :: a1 :: some (vl x) :: none :: t) st I L R Z Q) (hj : 2 + 1 < M.2.2.1 := by decide) (hp : isLg a1 = false := by rfl) : AWq l E d M Z0 pc (a0 :: a1 :: b :: b2 :: t) (vl x :: st) I L R Z Q :=
  aw_lstore (j := 2) hd hj (hpS (k := 1) rfl hp) k
theorem aw_ist3 {x : Int32} {a0 a1 a2 b : Option AV} {t : List (Option AV)} (hd : Dc M pc (.istore_n 3) 1 pc2) (k : AWq l E d M Z0 pc2 (a0 :: a1 :: a2 :: some (vi x) :: t) st I L R Z Q) (hj : 3 < M.2.2.1 := by decide) (hp : isLg a2 = false := by rfl) : AWq l E d M Z0 pc (a0 :: a1 :: a2 :: b :: t) (vi x :: st) I L R Z Q :=
  aw_istore_n (j := 3) hd hj (hpS (k := 2) rfl hp) k
theorem aw_ist3w {x : Int32} {a0 a1 a2 b : Option AV} {t : List (Option AV)} (hd : Dc M pc (.istore 3) 2 pc2) (k : AWq l E d M Z0 pc2 (a0 :: a1 :: a2 :: some (vi x) :: t) st I L R Z Q) (hj : 3 < M.2.2.1 := by decide) (hp : isLg a2 = false := by rfl) : AWq l E d M Z0 pc (a0 :: a1 :: a2 :: b :: t) (vi x :: st) I L R Z Q :=
  aw_istore (j := 3) hd hj (hpS (k := 2) rfl hp) k
theorem aw_ast3 {r i : Nat} {a0 a1 a2 b : Option AV} {t : List (Option AV)} (hd : Dc M pc (.astore_n 3) 1 pc2) (k : AWq l E d M Z0 pc2 (a0 :: a1 :: a2 :: some (vr r i) :: t) st I L R Z Q) (hj : 3 < M.2.2.1 := by decide) (hp : isLg a2 = false := by rfl) : AWq l E d M Z0 pc (a0 :: a1 :: a2 :: b :: t) (vr r i :: st) I L R Z Q :=
  aw_astore_n (j := 3) hd hj (hpS (k := 2) rfl hp) k
theorem aw_ast3w {r i : Nat} {a0 a1 a2 b : Option AV} {t : List (Option AV)} (hd : Dc M pc (.astore 3) 2 pc2) (k : AWq l E d M Z0 pc2 (a0 :: a1 :: a2 :: some (vr r i) :: t) st I L R Z Q) (hj : 3 < M.2.2.1 := by decide) (hp : isLg a2 = false := by rfl) : AWq l E d M Z0 pc (a0 :: a1 :: a2 :: b :: t) (vr r i :: st) I L R Z Q :=
  aw_astore (j := 3) hd hj (hpS (k := 2) rfl hp) k
theorem aw_inc3 {x v : Int32} {n : Int} {a0 a1 a2 : Option AV} {t : List (Option AV)} (hd : Dc M pc (.iinc 3 n) 3 pc2) (hv : x + Int32.ofInt n = v) (k : AWq l E d M Z0 pc2 (a0 :: a1 :: a2 :: some (vi v) :: t) st I L R Z Q) (hj : 3 < M.2.2.1 := by decide) (hp : isLg a2 = false := by rfl) : AWq l E d M Z0 pc (a0 :: a1 :: a2 :: some (vi x) :: t) st I L R Z Q :=
  aw_iinc hd rfl hj (hpS (k := 2) rfl hp) hv k
theorem aw_lst3 {x : Int64} {a0 a1 a2 b b2 : Option AV} {t : List (Option AV)} (hd : Dc M pc (.lstore_n 3) 1 pc2) (k : AWq l E d M Z0 pc2 (a0 :: a1 :: a2 :: some (vl x) :: none :: t) st I L R Z Q) (hj : 3 + 1 < M.2.2.1 := by decide) (hp : isLg a2 = false := by rfl) : AWq l E d M Z0 pc (a0 :: a1 :: a2 :: b :: b2 :: t) (vl x :: st) I L R Z Q :=
  aw_lstore_n (j := 3) hd hj (hpS (k := 2) rfl hp) k
theorem aw_lst3w {x : Int64} {a0 a1 a2 b b2 : Option AV} {t : List (Option AV)} (hd : Dc M pc (.lstore 3) 2 pc2) (k : AWq l E d M Z0 pc2 (a0 :: a1 :: a2 :: some (vl x) :: none :: t) st I L R Z Q) (hj : 3 + 1 < M.2.2.1 := by decide) (hp : isLg a2 = false := by rfl) : AWq l E d M Z0 pc (a0 :: a1 :: a2 :: b :: b2 :: t) (vl x :: st) I L R Z Q :=
  aw_lstore (j := 3) hd hj (hpS (k := 2) rfl hp) k
theorem aw_ist4 {x : Int32} {a0 a1 a2 a3 b : Option AV} {t : List (Option AV)} (hd : Dc M pc (.istore 4) 2 pc2) (k : AWq l E d M Z0 pc2 (a0 :: a1 :: a2 :: a3 :: some (vi x) :: t) st I L R Z Q) (hj : 4 < M.2.2.1 := by decide) (hp : isLg a3 = false := by rfl) : AWq l E d M Z0 pc (a0 :: a1 :: a2 :: a3 :: b :: t) (vi x :: st) I L R Z Q :=
  aw_istore (j := 4) hd hj (hpS (k := 3) rfl hp) k
theorem aw_ast4 {r i : Nat} {a0 a1 a2 a3 b : Option AV} {t : List (Option AV)} (hd : Dc M pc (.astore 4) 2 pc2) (k : AWq l E d M Z0 pc2 (a0 :: a1 :: a2 :: a3 :: some (vr r i) :: t) st I L R Z Q) (hj : 4 < M.2.2.1 := by decide) (hp : isLg a3 = false := by rfl) : AWq l E d M Z0 pc (a0 :: a1 :: a2 :: a3 :: b :: t) (vr r i :: st) I L R Z Q :=
  aw_astore (j := 4) hd hj (hpS (k := 3) rfl hp) k
theorem aw_inc4 {x v : Int32} {n : Int} {a0 a1 a2 a3 : Option AV} {t : List (Option AV)} (hd : Dc M pc (.iinc 4 n) 3 pc2) (hv : x + Int32.ofInt n = v) (k : AWq l E d M Z0 pc2 (a0 :: a1 :: a2 :: a3 :: some (vi v) :: t) st I L R Z Q) (hj : 4 < M.2.2.1 := by decide) (hp : isLg a3 = false := by rfl) : AWq l E d M Z0 pc (a0 :: a1 :: a2 :: a3 :: some (vi x) :: t) st I L R Z Q :=
  aw_iinc hd rfl hj (hpS (k := 3) rfl hp) hv k
theorem aw_lst4 {x : Int64} {a0 a1 a2 a3 b b2 : Option AV} {t : List (Option AV)} (hd : Dc M pc (.lstore 4) 2 pc2) (k : AWq l E d M Z0 pc2 (a0 :: a1 :: a2 :: a3 :: some (vl x) :: none :: t) st I L R Z Q) (hj : 4 + 1 < M.2.2.1 := by decide) (hp : isLg a3 = false := by rfl) : AWq l E d M Z0 pc (a0 :: a1 :: a2 :: a3 :: b :: b2 :: t) (vl x :: st) I L R Z Q :=
  aw_lstore (j := 4) hd hj (hpS (k := 3) rfl hp) k
theorem aw_ist5 {x : Int32} {a0 a1 a2 a3 a4 b : Option AV} {t : List (Option AV)} (hd : Dc M pc (.istore 5) 2 pc2) (k : AWq l E d M Z0 pc2 (a0 :: a1 :: a2 :: a3 :: a4 :: some (vi x) :: t) st I L R Z Q) (hj : 5 < M.2.2.1 := by decide) (hp : isLg a4 = false := by rfl) : AWq l E d M Z0 pc (a0 :: a1 :: a2 :: a3 :: a4 :: b :: t) (vi x :: st) I L R Z Q :=
  aw_istore (j := 5) hd hj (hpS (k := 4) rfl hp) k
theorem aw_ast5 {r i : Nat} {a0 a1 a2 a3 a4 b : Option AV} {t : List (Option AV)} (hd : Dc M pc (.astore 5) 2 pc2) (k : AWq l E d M Z0 pc2 (a0 :: a1 :: a2 :: a3 :: a4 :: some (vr r i) :: t) st I L R Z Q) (hj : 5 < M.2.2.1 := by decide) (hp : isLg a4 = false := by rfl) : AWq l E d M Z0 pc (a0 :: a1 :: a2 :: a3 :: a4 :: b :: t) (vr r i :: st) I L R Z Q :=
  aw_astore (j := 5) hd hj (hpS (k := 4) rfl hp) k
theorem aw_inc5 {x v : Int32} {n : Int} {a0 a1 a2 a3 a4 : Option AV} {t : List (Option AV)} (hd : Dc M pc (.iinc 5 n) 3 pc2) (hv : x + Int32.ofInt n = v) (k : AWq l E d M Z0 pc2 (a0 :: a1 :: a2 :: a3 :: a4 :: some (vi v) :: t) st I L R Z Q) (hj : 5 < M.2.2.1 := by decide) (hp : isLg a4 = false := by rfl) : AWq l E d M Z0 pc (a0 :: a1 :: a2 :: a3 :: a4 :: some (vi x) :: t) st I L R Z Q :=
  aw_iinc hd rfl hj (hpS (k := 4) rfl hp) hv k
theorem aw_lst5 {x : Int64} {a0 a1 a2 a3 a4 b b2 : Option AV} {t : List (Option AV)} (hd : Dc M pc (.lstore 5) 2 pc2) (k : AWq l E d M Z0 pc2 (a0 :: a1 :: a2 :: a3 :: a4 :: some (vl x) :: none :: t) st I L R Z Q) (hj : 5 + 1 < M.2.2.1 := by decide) (hp : isLg a4 = false := by rfl) : AWq l E d M Z0 pc (a0 :: a1 :: a2 :: a3 :: a4 :: b :: b2 :: t) (vl x :: st) I L R Z Q :=
  aw_lstore (j := 5) hd hj (hpS (k := 4) rfl hp) k
theorem aw_ist6 {x : Int32} {a0 a1 a2 a3 a4 a5 b : Option AV} {t : List (Option AV)} (hd : Dc M pc (.istore 6) 2 pc2) (k : AWq l E d M Z0 pc2 (a0 :: a1 :: a2 :: a3 :: a4 :: a5 :: some (vi x) :: t) st I L R Z Q) (hj : 6 < M.2.2.1 := by decide) (hp : isLg a5 = false := by rfl) : AWq l E d M Z0 pc (a0 :: a1 :: a2 :: a3 :: a4 :: a5 :: b :: t) (vi x :: st) I L R Z Q :=
  aw_istore (j := 6) hd hj (hpS (k := 5) rfl hp) k
theorem aw_ast6 {r i : Nat} {a0 a1 a2 a3 a4 a5 b : Option AV} {t : List (Option AV)} (hd : Dc M pc (.astore 6) 2 pc2) (k : AWq l E d M Z0 pc2 (a0 :: a1 :: a2 :: a3 :: a4 :: a5 :: some (vr r i) :: t) st I L R Z Q) (hj : 6 < M.2.2.1 := by decide) (hp : isLg a5 = false := by rfl) : AWq l E d M Z0 pc (a0 :: a1 :: a2 :: a3 :: a4 :: a5 :: b :: t) (vr r i :: st) I L R Z Q :=
  aw_astore (j := 6) hd hj (hpS (k := 5) rfl hp) k
theorem aw_inc6 {x v : Int32} {n : Int} {a0 a1 a2 a3 a4 a5 : Option AV} {t : List (Option AV)} (hd : Dc M pc (.iinc 6 n) 3 pc2) (hv : x + Int32.ofInt n = v) (k : AWq l E d M Z0 pc2 (a0 :: a1 :: a2 :: a3 :: a4 :: a5 :: some (vi v) :: t) st I L R Z Q) (hj : 6 < M.2.2.1 := by decide) (hp : isLg a5 = false := by rfl) : AWq l E d M Z0 pc (a0 :: a1 :: a2 :: a3 :: a4 :: a5 :: some (vi x) :: t) st I L R Z Q :=
  aw_iinc hd rfl hj (hpS (k := 5) rfl hp) hv k
theorem aw_lst6 {x : Int64} {a0 a1 a2 a3 a4 a5 b b2 : Option AV} {t : List (Option AV)} (hd : Dc M pc (.lstore 6) 2 pc2) (k : AWq l E d M Z0 pc2 (a0 :: a1 :: a2 :: a3 :: a4 :: a5 :: some (vl x) :: none :: t) st I L R Z Q) (hj : 6 + 1 < M.2.2.1 := by decide) (hp : isLg a5 = false := by rfl) : AWq l E d M Z0 pc (a0 :: a1 :: a2 :: a3 :: a4 :: a5 :: b :: b2 :: t) (vl x :: st) I L R Z Q :=
  aw_lstore (j := 6) hd hj (hpS (k := 5) rfl hp) k
theorem aw_ist7 {x : Int32} {a0 a1 a2 a3 a4 a5 a6 b : Option AV} {t : List (Option AV)} (hd : Dc M pc (.istore 7) 2 pc2) (k : AWq l E d M Z0 pc2 (a0 :: a1 :: a2 :: a3 :: a4 :: a5 :: a6 :: some (vi x) :: t) st I L R Z Q) (hj : 7 < M.2.2.1 := by decide) (hp : isLg a6 = false := by rfl) : AWq l E d M Z0 pc (a0 :: a1 :: a2 :: a3 :: a4 :: a5 :: a6 :: b :: t) (vi x :: st) I L R Z Q :=
  aw_istore (j := 7) hd hj (hpS (k := 6) rfl hp) k
theorem aw_ast7 {r i : Nat} {a0 a1 a2 a3 a4 a5 a6 b : Option AV} {t : List (Option AV)} (hd : Dc M pc (.astore 7) 2 pc2) (k : AWq l E d M Z0 pc2 (a0 :: a1 :: a2 :: a3 :: a4 :: a5 :: a6 :: some (vr r i) :: t) st I L R Z Q) (hj : 7 < M.2.2.1 := by decide) (hp : isLg a6 = false := by rfl) : AWq l E d M Z0 pc (a0 :: a1 :: a2 :: a3 :: a4 :: a5 :: a6 :: b :: t) (vr r i :: st) I L R Z Q :=
  aw_astore (j := 7) hd hj (hpS (k := 6) rfl hp) k
theorem aw_inc7 {x v : Int32} {n : Int} {a0 a1 a2 a3 a4 a5 a6 : Option AV} {t : List (Option AV)} (hd : Dc M pc (.iinc 7 n) 3 pc2) (hv : x + Int32.ofInt n = v) (k : AWq l E d M Z0 pc2 (a0 :: a1 :: a2 :: a3 :: a4 :: a5 :: a6 :: some (vi v) :: t) st I L R Z Q) (hj : 7 < M.2.2.1 := by decide) (hp : isLg a6 = false := by rfl) : AWq l E d M Z0 pc (a0 :: a1 :: a2 :: a3 :: a4 :: a5 :: a6 :: some (vi x) :: t) st I L R Z Q :=
  aw_iinc hd rfl hj (hpS (k := 6) rfl hp) hv k
theorem aw_lst7 {x : Int64} {a0 a1 a2 a3 a4 a5 a6 b b2 : Option AV} {t : List (Option AV)} (hd : Dc M pc (.lstore 7) 2 pc2) (k : AWq l E d M Z0 pc2 (a0 :: a1 :: a2 :: a3 :: a4 :: a5 :: a6 :: some (vl x) :: none :: t) st I L R Z Q) (hj : 7 + 1 < M.2.2.1 := by decide) (hp : isLg a6 = false := by rfl) : AWq l E d M Z0 pc (a0 :: a1 :: a2 :: a3 :: a4 :: a5 :: a6 :: b :: b2 :: t) (vl x :: st) I L R Z Q :=
  aw_lstore (j := 7) hd hj (hpS (k := 6) rfl hp) k
theorem aw_ist8 {x : Int32} {a0 a1 a2 a3 a4 a5 a6 a7 b : Option AV} {t : List (Option AV)} (hd : Dc M pc (.istore 8) 2 pc2) (k : AWq l E d M Z0 pc2 (a0 :: a1 :: a2 :: a3 :: a4 :: a5 :: a6 :: a7 :: some (vi x) :: t) st I L R Z Q) (hj : 8 < M.2.2.1 := by decide) (hp : isLg a7 = false := by rfl) : AWq l E d M Z0 pc (a0 :: a1 :: a2 :: a3 :: a4 :: a5 :: a6 :: a7 :: b :: t) (vi x :: st) I L R Z Q :=
  aw_istore (j := 8) hd hj (hpS (k := 7) rfl hp) k
theorem aw_ast8 {r i : Nat} {a0 a1 a2 a3 a4 a5 a6 a7 b : Option AV} {t : List (Option AV)} (hd : Dc M pc (.astore 8) 2 pc2) (k : AWq l E d M Z0 pc2 (a0 :: a1 :: a2 :: a3 :: a4 :: a5 :: a6 :: a7 :: some (vr r i) :: t) st I L R Z Q) (hj : 8 < M.2.2.1 := by decide) (hp : isLg a7 = false := by rfl) : AWq l E d M Z0 pc (a0 :: a1 :: a2 :: a3 :: a4 :: a5 :: a6 :: a7 :: b :: t) (vr r i :: st) I L R Z Q :=
  aw_astore (j := 8) hd hj (hpS (k := 7) rfl hp) k
theorem aw_inc8 {x v : Int32} {n : Int} {a0 a1 a2 a3 a4 a5 a6 a7 : Option AV} {t : List (Option AV)} (hd : Dc M pc (.iinc 8 n) 3 pc2) (hv : x + Int32.ofInt n = v) (k : AWq l E d M Z0 pc2 (a0 :: a1 :: a2 :: a3 :: a4 :: a5 :: a6 :: a7 :: some (vi v) :: t) st I L R Z Q) (hj : 8 < M.2.2.1 := by decide) (hp : isLg a7 = false := by rfl) : AWq l E d M Z0 pc (a0 :: a1 :: a2 :: a3 :: a4 :: a5 :: a6 :: a7 :: some (vi x) :: t) st I L R Z Q :=
  aw_iinc hd rfl hj (hpS (k := 7) rfl hp) hv k
theorem aw_lst8 {x : Int64} {a0 a1 a2 a3 a4 a5 a6 a7 b b2 : Option AV} {t : List (Option AV)} (hd : Dc M pc (.lstore 8) 2 pc2) (k : AWq l E d M Z0 pc2 (a0 :: a1 :: a2 :: a3 :: a4 :: a5 :: a6 :: a7 :: some (vl x) :: none :: t) st I L R Z Q) (hj : 8 + 1 < M.2.2.1 := by decide) (hp : isLg a7 = false := by rfl) : AWq l E d M Z0 pc (a0 :: a1 :: a2 :: a3 :: a4 :: a5 :: a6 :: a7 :: b :: b2 :: t) (vl x :: st) I L R Z Q :=
  aw_lstore (j := 8) hd hj (hpS (k := 7) rfl hp) k
theorem aw_ist9 {x : Int32} {a0 a1 a2 a3 a4 a5 a6 a7 a8 b : Option AV} {t : List (Option AV)} (hd : Dc M pc (.istore 9) 2 pc2) (k : AWq l E d M Z0 pc2 (a0 :: a1 :: a2 :: a3 :: a4 :: a5 :: a6 :: a7 :: a8 :: some (vi x) :: t) st I L R Z Q) (hj : 9 < M.2.2.1 := by decide) (hp : isLg a8 = false := by rfl) : AWq l E d M Z0 pc (a0 :: a1 :: a2 :: a3 :: a4 :: a5 :: a6 :: a7 :: a8 :: b :: t) (vi x :: st) I L R Z Q :=
  aw_istore (j := 9) hd hj (hpS (k := 8) rfl hp) k
theorem aw_ast9 {r i : Nat} {a0 a1 a2 a3 a4 a5 a6 a7 a8 b : Option AV} {t : List (Option AV)} (hd : Dc M pc (.astore 9) 2 pc2) (k : AWq l E d M Z0 pc2 (a0 :: a1 :: a2 :: a3 :: a4 :: a5 :: a6 :: a7 :: a8 :: some (vr r i) :: t) st I L R Z Q) (hj : 9 < M.2.2.1 := by decide) (hp : isLg a8 = false := by rfl) : AWq l E d M Z0 pc (a0 :: a1 :: a2 :: a3 :: a4 :: a5 :: a6 :: a7 :: a8 :: b :: t) (vr r i :: st) I L R Z Q :=
  aw_astore (j := 9) hd hj (hpS (k := 8) rfl hp) k
theorem aw_inc9 {x v : Int32} {n : Int} {a0 a1 a2 a3 a4 a5 a6 a7 a8 : Option AV} {t : List (Option AV)} (hd : Dc M pc (.iinc 9 n) 3 pc2) (hv : x + Int32.ofInt n = v) (k : AWq l E d M Z0 pc2 (a0 :: a1 :: a2 :: a3 :: a4 :: a5 :: a6 :: a7 :: a8 :: some (vi v) :: t) st I L R Z Q) (hj : 9 < M.2.2.1 := by decide) (hp : isLg a8 = false := by rfl) : AWq l E d M Z0 pc (a0 :: a1 :: a2 :: a3 :: a4 :: a5 :: a6 :: a7 :: a8 :: some (vi x) :: t) st I L R Z Q :=
  aw_iinc hd rfl hj (hpS (k := 8) rfl hp) hv k
theorem aw_lst9 {x : Int64} {a0 a1 a2 a3 a4 a5 a6 a7 a8 b b2 : Option AV} {t : List (Option AV)} (hd : Dc M pc (.lstore 9) 2 pc2) (k : AWq l E d M Z0 pc2 (a0 :: a1 :: a2 :: a3 :: a4 :: a5 :: a6 :: a7 :: a8 :: some (vl x) :: none :: t) st I L R Z Q) (hj : 9 + 1 < M.2.2.1 := by decide) (hp : isLg a8 = false := by rfl) : AWq l E d M Z0 pc (a0 :: a1 :: a2 :: a3 :: a4 :: a5 :: a6 :: a7 :: a8 :: b :: b2 :: t) (vl x :: st) I L R Z Q :=
  aw_lstore (j := 9) hd hj (hpS (k := 8) rfl hp) k
theorem aw_ist10 {x : Int32} {a0 a1 a2 a3 a4 a5 a6 a7 a8 a9 b : Option AV} {t : List (Option AV)} (hd : Dc M pc (.istore 10) 2 pc2) (k : AWq l E d M Z0 pc2 (a0 :: a1 :: a2 :: a3 :: a4 :: a5 :: a6 :: a7 :: a8 :: a9 :: some (vi x) :: t) st I L R Z Q) (hj : 10 < M.2.2.1 := by decide) (hp : isLg a9 = false := by rfl) : AWq l E d M Z0 pc (a0 :: a1 :: a2 :: a3 :: a4 :: a5 :: a6 :: a7 :: a8 :: a9 :: b :: t) (vi x :: st) I L R Z Q :=
  aw_istore (j := 10) hd hj (hpS (k := 9) rfl hp) k
theorem aw_ast10 {r i : Nat} {a0 a1 a2 a3 a4 a5 a6 a7 a8 a9 b : Option AV} {t : List (Option AV)} (hd : Dc M pc (.astore 10) 2 pc2) (k : AWq l E d M Z0 pc2 (a0 :: a1 :: a2 :: a3 :: a4 :: a5 :: a6 :: a7 :: a8 :: a9 :: some (vr r i) :: t) st I L R Z Q) (hj : 10 < M.2.2.1 := by decide) (hp : isLg a9 = false := by rfl) : AWq l E d M Z0 pc (a0 :: a1 :: a2 :: a3 :: a4 :: a5 :: a6 :: a7 :: a8 :: a9 :: b :: t) (vr r i :: st) I L R Z Q :=
  aw_astore (j := 10) hd hj (hpS (k := 9) rfl hp) k
theorem aw_inc10 {x v : Int32} {n : Int} {a0 a1 a2 a3 a4 a5 a6 a7 a8 a9 : Option AV} {t : List (Option AV)} (hd : Dc M pc (.iinc 10 n) 3 pc2) (hv : x + Int32.ofInt n = v) (k : AWq l E d M Z0 pc2 (a0 :: a1 :: a2 :: a3 :: a4 :: a5 :: a6 :: a7 :: a8 :: a9 :: some (vi v) :: t) st I L R Z Q) (hj : 10 < M.2.2.1 := by decide) (hp : isLg a9 = false := by rfl) : AWq l E d M Z0 pc (a0 :: a1 :: a2 :: a3 :: a4 :: a5 :: a6 :: a7 :: a8 :: a9 :: some (vi x) :: t) st I L R Z Q :=
  aw_iinc hd rfl hj (hpS (k := 9) rfl hp) hv k
theorem aw_lst10 {x : Int64} {a0 a1 a2 a3 a4 a5 a6 a7 a8 a9 b b2 : Option AV} {t : List (Option AV)} (hd : Dc M pc (.lstore 10) 2 pc2) (k : AWq l E d M Z0 pc2 (a0 :: a1 :: a2 :: a3 :: a4 :: a5 :: a6 :: a7 :: a8 :: a9 :: some (vl x) :: none :: t) st I L R Z Q) (hj : 10 + 1 < M.2.2.1 := by decide) (hp : isLg a9 = false := by rfl) : AWq l E d M Z0 pc (a0 :: a1 :: a2 :: a3 :: a4 :: a5 :: a6 :: a7 :: a8 :: a9 :: b :: b2 :: t) (vl x :: st) I L R Z Q :=
  aw_lstore (j := 10) hd hj (hpS (k := 9) rfl hp) k
theorem aw_ist11 {x : Int32} {a0 a1 a2 a3 a4 a5 a6 a7 a8 a9 a10 b : Option AV} {t : List (Option AV)} (hd : Dc M pc (.istore 11) 2 pc2) (k : AWq l E d M Z0 pc2 (a0 :: a1 :: a2 :: a3 :: a4 :: a5 :: a6 :: a7 :: a8 :: a9 :: a10 :: some (vi x) :: t) st I L R Z Q) (hj : 11 < M.2.2.1 := by decide) (hp : isLg a10 = false := by rfl) : AWq l E d M Z0 pc (a0 :: a1 :: a2 :: a3 :: a4 :: a5 :: a6 :: a7 :: a8 :: a9 :: a10 :: b :: t) (vi x :: st) I L R Z Q :=
  aw_istore (j := 11) hd hj (hpS (k := 10) rfl hp) k
theorem aw_ast11 {r i : Nat} {a0 a1 a2 a3 a4 a5 a6 a7 a8 a9 a10 b : Option AV} {t : List (Option AV)} (hd : Dc M pc (.astore 11) 2 pc2) (k : AWq l E d M Z0 pc2 (a0 :: a1 :: a2 :: a3 :: a4 :: a5 :: a6 :: a7 :: a8 :: a9 :: a10 :: some (vr r i) :: t) st I L R Z Q) (hj : 11 < M.2.2.1 := by decide) (hp : isLg a10 = false := by rfl) : AWq l E d M Z0 pc (a0 :: a1 :: a2 :: a3 :: a4 :: a5 :: a6 :: a7 :: a8 :: a9 :: a10 :: b :: t) (vr r i :: st) I L R Z Q :=
  aw_astore (j := 11) hd hj (hpS (k := 10) rfl hp) k
theorem aw_inc11 {x v : Int32} {n : Int} {a0 a1 a2 a3 a4 a5 a6 a7 a8 a9 a10 : Option AV} {t : List (Option AV)} (hd : Dc M pc (.iinc 11 n) 3 pc2) (hv : x + Int32.ofInt n = v) (k : AWq l E d M Z0 pc2 (a0 :: a1 :: a2 :: a3 :: a4 :: a5 :: a6 :: a7 :: a8 :: a9 :: a10 :: some (vi v) :: t) st I L R Z Q) (hj : 11 < M.2.2.1 := by decide) (hp : isLg a10 = false := by rfl) : AWq l E d M Z0 pc (a0 :: a1 :: a2 :: a3 :: a4 :: a5 :: a6 :: a7 :: a8 :: a9 :: a10 :: some (vi x) :: t) st I L R Z Q :=
  aw_iinc hd rfl hj (hpS (k := 10) rfl hp) hv k
theorem aw_lst11 {x : Int64} {a0 a1 a2 a3 a4 a5 a6 a7 a8 a9 a10 b b2 : Option AV} {t : List (Option AV)} (hd : Dc M pc (.lstore 11) 2 pc2) (k : AWq l E d M Z0 pc2 (a0 :: a1 :: a2 :: a3 :: a4 :: a5 :: a6 :: a7 :: a8 :: a9 :: a10 :: some (vl x) :: none :: t) st I L R Z Q) (hj : 11 + 1 < M.2.2.1 := by decide) (hp : isLg a10 = false := by rfl) : AWq l E d M Z0 pc (a0 :: a1 :: a2 :: a3 :: a4 :: a5 :: a6 :: a7 :: a8 :: a9 :: a10 :: b :: b2 :: t) (vl x :: st) I L R Z Q :=
  aw_lstore (j := 11) hd hj (hpS (k := 10) rfl hp) k
theorem aw_ist12 {x : Int32} {a0 a1 a2 a3 a4 a5 a6 a7 a8 a9 a10 a11 b : Option AV} {t : List (Option AV)} (hd : Dc M pc (.istore 12) 2 pc2) (k : AWq l E d M Z0 pc2 (a0 :: a1 :: a2 :: a3 :: a4 :: a5 :: a6 :: a7 :: a8 :: a9 :: a10 :: a11 :: some (vi x) :: t) st I L R Z Q) (hj : 12 < M.2.2.1 := by decide) (hp : isLg a11 = false := by rfl) : AWq l E d M Z0 pc (a0 :: a1 :: a2 :: a3 :: a4 :: a5 :: a6 :: a7 :: a8 :: a9 :: a10 :: a11 :: b :: t) (vi x :: st) I L R Z Q :=
  aw_istore (j := 12) hd hj (hpS (k := 11) rfl hp) k
theorem aw_ast12 {r i : Nat} {a0 a1 a2 a3 a4 a5 a6 a7 a8 a9 a10 a11 b : Option AV} {t : List (Option AV)} (hd : Dc M pc (.astore 12) 2 pc2) (k : AWq l E d M Z0 pc2 (a0 :: a1 :: a2 :: a3 :: a4 :: a5 :: a6 :: a7 :: a8 :: a9 :: a10 :: a11 :: some (vr r i) :: t) st I L R Z Q) (hj : 12 < M.2.2.1 := by decide) (hp : isLg a11 = false := by rfl) : AWq l E d M Z0 pc (a0 :: a1 :: a2 :: a3 :: a4 :: a5 :: a6 :: a7 :: a8 :: a9 :: a10 :: a11 :: b :: t) (vr r i :: st) I L R Z Q :=
  aw_astore (j := 12) hd hj (hpS (k := 11) rfl hp) k
theorem aw_inc12 {x v : Int32} {n : Int} {a0 a1 a2 a3 a4 a5 a6 a7 a8 a9 a10 a11 : Option AV} {t : List (Option AV)} (hd : Dc M pc (.iinc 12 n) 3 pc2) (hv : x + Int32.ofInt n = v) (k : AWq l E d M Z0 pc2 (a0 :: a1 :: a2 :: a3 :: a4 :: a5 :: a6 :: a7 :: a8 :: a9 :: a10 :: a11 :: some (vi v) :: t) st I L R Z Q) (hj : 12 < M.2.2.1 := by decide) (hp : isLg a11 = false := by rfl) : AWq l E d M Z0 pc (a0 :: a1 :: a2 :: a3 :: a4 :: a5 :: a6 :: a7 :: a8 :: a9 :: a10 :: a11 :: some (vi x) :: t) st I L R Z Q :=
  aw_iinc hd rfl hj (hpS (k := 11) rfl hp) hv k
theorem aw_lst12 {x : Int64} {a0 a1 a2 a3 a4 a5 a6 a7 a8 a9 a10 a11 b b2 : Option AV} {t : List (Option AV)} (hd : Dc M pc (.lstore 12) 2 pc2) (k : AWq l E d M Z0 pc2 (a0 :: a1 :: a2 :: a3 :: a4 :: a5 :: a6 :: a7 :: a8 :: a9 :: a10 :: a11 :: some (vl x) :: none :: t) st I L R Z Q) (hj : 12 + 1 < M.2.2.1 := by decide) (hp : isLg a11 = false := by rfl) : AWq l E d M Z0 pc (a0 :: a1 :: a2 :: a3 :: a4 :: a5 :: a6 :: a7 :: a8 :: a9 :: a10 :: a11 :: b :: b2 :: t) (vl x :: st) I L R Z Q :=
  aw_lstore (j := 12) hd hj (hpS (k := 11) rfl hp) k
end RULES
end
section
/-! ===== classes by tag ===== -/
def Rn (t : Nat) : String := match t with
  | 0 => RX0 | 1 => RX1 | 2 => RX2 | 3 => RX3 | 4 => RX4 | 5 => RX5 | 6 => RX6 | 7 => RX7 | 8 => RX8 | _ => RX9
def Tt (t : Nat) : u_T := match t with
  | 0 => TX0 | 1 => TX1 | 2 => TX2 | 3 => TX3 | 4 => TX4 | 5 => TX5 | 6 => TX6 | 7 => TX7 | 8 => TX8 | _ => TX9
def Ty (t : Nat) : Nat → FieldType := match t with
  | 0 => tyX0 | 1 => tyX1 | 2 => tyX2 | 3 => tyX3 | 4 => tyX4 | 5 => tyX5 | 6 => tyX6 | 7 => tyX7 | 8 => tyX8 | _ => tyX9
theorem by10 {P : Nat → Prop} (h0 : P 0) (h1 : P 1) (h2 : P 2) (h3 : P 3) (h4 : P 4) (h5 : P 5) (h6 : P 6) (h7 : P 7) (h8 : P 8) (h9 : P 9) : ∀ t, t < 10 → P t := fun t ht =>
  match t, ht with
  | 0, _ => h0 | 1, _ => h1 | 2, _ => h2 | 3, _ => h3 | 4, _ => h4 | 5, _ => h5 | 6, _ => h6 | 7, _ => h7 | 8, _ => h8 | 9, _ => h9
  | n + 10, h => absurd h (by omega)
theorem cl_at : ∀ t, t < 10 → classes[t]? = some (Rn t, Tt t, nf t) := by10 rfl rfl rfl rfl rfl rfl rfl rfl rfl rfl
theorem mem_G {ws : List Cond} (h : ws.all (fun w => decide (w ∈ lw_tbl) && goodWord w) = true) : ∀ w ∈ ws, w ∈ G := fun w hw => by
  have h1 := List.all_eq_true.mp h w hw
  simp only [Bool.and_eq_true, decide_eq_true_eq] at h1
  exact List.mem_filter.mpr h1
set_option maxRecDepth 100000 in
theorem cl_in : ∀ t, t < 10 → ∀ w ∈ u_ws (Rn t) (Tt t) (nf t), w ∈ G := by10 (mem_G (by decide +kernel)) (mem_G (by decide +kernel)) (mem_G (by decide +kernel)) (mem_G (by decide +kernel)) (mem_G (by decide +kernel)) (mem_G (by decide +kernel)) (mem_G (by decide +kernel)) (mem_G (by decide +kernel)) (mem_G (by decide +kernel)) (mem_G (by decide +kernel))
theorem cl_nm : ∀ t, t < 10 → ∀ a, a < nf t → ∀ b, b < nf t → a ≠ b → (Tt t a).2.1 ≠ (Tt t b).2.1 := by10 nmX0 nmX1 nmX2 nmX3 nmX4 nmX5 nmX6 nmX7 nmX8 nmX9
theorem cl_ty : ∀ t, t < 10 → ∀ k, k < nf t → parseFieldDescriptor (Tt t k).2.2.1 = some (Ty t k) := by10 tyX0_ok tyX1_ok tyX2_ok tyX3_ok tyX4_ok tyX5_ok tyX6_ok tyX7_ok tyX8_ok tyX9_ok
theorem cl_df : ∀ t, t < 10 → ∀ k, k < nf t → defaultValue (Ty t k) = if fr t k then Value.null else .int 0 := by
  refine by10 ?_ ?_ ?_ ?_ ?_ ?_ ?_ ?_ ?_ ?_ <;> decide +kernel
/-- a field by its link -/
def FL (own : String) (idx t f : Nat) : Prop := (t < 10 ∧ f < nf t) ∧ Cond.fieldLink own idx (Tt t f).1 (Tt t f).2.1 (Tt t f).2.2.1 ∈ G
theorem vd_of {Z : Zt} {t i : Nat} (h : vv Z (vr t i)) (ht : t < 50) : VD Z t i := h.elim (fun q => absurd q (Nat.not_le.mpr ht)) id
theorem cell_o (E : En) (I : It) (L : Lt) (R : Rt) (Z : Zt) {t i : Nat} (h : t < 10) : cellE E I L R Z t i = .inr (t, (List.range (nf t)).map (fV E I R t i)) := if_pos h
theorem cell_i (E : En) (I : It) (L : Lt) (R : Rt) (Z : Zt) {t i : Nat} (h : 10 ≤ t) (h1 : tc t < 3) (h2 : tc t ≠ 1) : cellE E I L R Z t i = .inl (E.2.1 (tc t), alen Z t i, .inl (I t i)) := by
  unfold cellE
  rw [if_neg (Nat.not_lt.mpr h), if_neg h2, if_pos h1]
theorem cell_l (E : En) (I : It) (L : Lt) (R : Rt) (Z : Zt) {t i : Nat} (h : 10 ≤ t) (h2 : tc t = 1) : cellE E I L R Z t i = .inl (E.2.1 1, alen Z t i, .inr (.inl (L t i))) := by
  unfold cellE
  rw [if_neg (Nat.not_lt.mpr h), if_pos h2]
theorem cell_r (E : En) (I : It) (L : Lt) (R : Rt) (Z : Zt) {t i : Nat} (h : 10 ≤ t) (h1 : 3 ≤ tc t) : cellE E I L R Z t i = .inl (E.2.1 (tc t), alen Z t i, .inr (.inr (.inr (.inr (fun j => cR E (R t i j)))))) := by
  unfold cellE
  rw [if_neg (Nat.not_lt.mpr h), if_neg (by omega), if_neg (by omega)]
theorem va_one {D : va_G} {cl : List vw_C} {q : Nat × va_E} {H : Heap} (h : va_at D cl q H) : va_P D cl [q] H := fun k q2 hk => by
  have h0 : k < 1 := (List.getElem?_eq_some_iff.mp hk).1
  rw [show k = 0 by omega] at hk
  cases hk
  exact h
theorem fV_V (E : En) (I : It) (R : Rt) (t i : Nat) {k n : Nat} (h : k < n) : vp_V ((List.range n).map (fV E I R t i)) k = fV E I R t i k := by
  unfold vp_V
  rw [List.getD_eq_getElem?_getD, List.getElem?_map, List.getElem?_range h]
  rfl
section HEAP
variable {l : Launch} {E : En} {d : Nat} {M : Mt} {Z0 : Zt} {pc pc2 tgt : Nat} {ls : List (Option AV)} {st : List AV} {I : It} {L : Lt} {R : Rt} {Z : Zt} {Q : Qt}
theorem aw_getf {idx t i f : Nat} {v : AV} (hd : Dc M pc (.getfield idx) 3 pc2) (hl : FL M.1.cls idx t f) (hv : cv E v = fV E I R t i f) (hvv : ∀ H, Wo E I L R Z H → VD Z t i → vv Z v) (k : AWq l E d M Z0 pc2 ls (v :: st) I L R Z Q) : AWq l E d M Z0 pc ls (vr t i :: st) I L R Z Q := by
  obtain ⟨hd, rfl⟩ := hd
  obtain ⟨⟨ht, hf⟩, hlk⟩ := hl
  obtain ⟨r, I2, L2, R2, Z2, hq, hz, k⟩ := k
  refine ⟨r, I2, L2, R2, Z2, hq, hz, fun p e Rm s m args below meth c F h1 h2 h3 h4 als H locs hl v1 v2 hW hS => ?_⟩
  have hvd : VD Z t i := vd_of (vh1 v1) (by omega)
  have hat := hW.at hvd
  rw [cell_o E I L R Z ht] at hat
  refine va_get F.1 F.2.1 F.2.2.2.2.1 (cl_in t ht) F.2.2.2.1 F.2.2.2.2.2.1.1 (va_one hat) 0 rfl (cl_at t ht) f hf (F.2.2.2.2.1 _ hlk) (fun _ h => h) (v := cv E v) ?_ hd (k p e Rm s m args below meth c F h1 h2 h3 h4 als H locs hl (vc1 (hvv H hW hvd) (vt1 v1)) v2 hW hS)
  rw [List.getElem?_map, List.getElem?_range hf, hv]
  rfl
theorem aw_getI {idx t i f : Nat} (hd : Dc M pc (.getfield idx) 3 pc2) (hl : FL M.1.cls idx t f) (k : AWq l E d M Z0 pc2 ls (vi (I t i f) :: st) I L R Z Q) (hf : fr t f = false := by rfl) : AWq l E d M Z0 pc ls (vr t i :: st) I L R Z Q :=
  aw_getf (v := vi (I t i f)) hd hl (by unfold fV; rw [hf]; rfl) (fun _ _ _ => trivial) k
theorem aw_getR {idx t i f t2 i2 : Nat} (hd : Dc M pc (.getfield idx) 3 pc2) (hl : FL M.1.cls idx t f) (hr : R t i f = some (t2, i2)) (k : AWq l E d M Z0 pc2 ls (vr t2 i2 :: st) I L R Z Q) (hf : fr t f = true := by rfl) : AWq l E d M Z0 pc ls (vr t i :: st) I L R Z Q :=
  aw_getf (v := vr t2 i2) hd hl (by unfold fV; rw [hf, hr]; rfl) (fun _ hW hvd => hW.2.2 t i f (t2, i2) hr hvd) k
/-- a field is written -/
theorem aw_putf {idx t i f : Nat} {v : AV} {I1 : It} {R1 : Rt} (hd : Dc M pc (.putfield idx) 3 pc2) (hl : FL M.1.cls idx t f) (hfin : (Tt t f).2.2.2 = false ∨ ((Tt t f).2.2.2 = true ∧ M.1.name = "<init>" ∧ (Tt t f).1 = M.1.cls)) (hn : narrow (Ty t f) (cv E v) = cv E v) (hfit : fits (Ty t f) (cv E v) = true)
    (hV : ∀ j, j < nf t → updV (fV E I R t i) f (cv E v) j = fV E I1 R1 t i j) (ho : ∀ t2 i2, ¬ (t2 = t ∧ i2 = i) → I1 t2 i2 = I t2 i2 ∧ R1 t2 i2 = R t2 i2) (hr : ∀ H, Wo E I L R Z H → VD Z t i → vv Z v → ∀ k q, R1 t i k = some q → vv Z (vr q.1 q.2))
    (k : AWq l E d M Z0 pc2 ls st I1 L R1 Z Q) : AWq l E d M Z0 pc ls (v :: vr t i :: st) I L R Z Q := by
  obtain ⟨hd, rfl⟩ := hd
  obtain ⟨⟨ht, hf⟩, hlk⟩ := hl
  obtain ⟨r, I2, L2, R2, Z2, hq, hz, k⟩ := k
  refine ⟨r, I2, L2, R2, Z2, hq, hz, fun p e Rm s m args below meth c F h1 h2 h3 h4 als H locs hl v1 v2 hW hS => ?_⟩
  have hvd : VD Z t i := vd_of (vh1 (vt1 v1)) (by omega)
  have hat := hW.at hvd
  rw [cell_o E I L R Z ht] at hat
  have hK := F.2.2.2.2.2.1.1
  have hts := F.2.2.2.2.1
  have hap := va_apart (own := M.1.cls) hts (cl_in t ht) (Ty t) (cl_ty t ht) (cl_nm t ht) hK (cl_at t ht)
  obtain ⟨r1, e1, cell, q1, q2, q3, q4⟩ := hat
  have hr1 : r1 = (Rn t, Tt t, nf t) := Option.some.inj (e1.symm.trans (cl_at t ht))
  subst hr1
  obtain ⟨hSl, hfc, kC, hkC, hkind⟩ := hK.1 t _ (cl_at t ht)
  obtain ⟨cf, kf, fi, fd, hi, hsl⟩ := hSl f hf
  have hst := (u_facts hfc hkC (u_lays hts (cl_in t ht) hf) hi).1
  obtain ⟨g1, g2⟩ := u_fits hfc hkC hkind (u_lays hts (cl_in t ht) hf) hi (cl_ty t ht f hf) hn hfit
  have hAa : Af E (ad E t i) := by unfold Af ad; rw [if_pos (by omega)]; omega
  have hfin2 : hasFlag fd.accessFlags Acc.final = false ∨ (m.cls = cf ∧ meth.name = "<init>") := by
    have hlay := hts _ (cl_in t ht _ (u_in_lay hf))
    unfold u_lay at hlay
    rcases hfin with h | ⟨h, h5, h6⟩
    · rw [if_neg (by rw [h]; decide)] at hlay
      obtain ⟨c', k', cf', kf', fi', fd', r1, r2, hi', -, hfn, -⟩ := Cond.lays_spec hlay
      cases hi.symm.trans hi'
      exact Or.inl hfn
    · right
      refine ⟨?_, by rw [F.2.2.2.2.2.2.2.2.1]; exact h5⟩
      rw [if_pos h] at hlay
      obtain ⟨_, _, c', _, _, _, -, -, hf', -, -, -, hown2, -⟩ := Cond.laysFinal_spec hlay
      have e1 : c' = cf := by have := hi.symm.trans hf'; simp at this; exact this.1.symm
      rw [h6] at hown2
      rw [← e1]
      exact Option.some.inj (F.2.2.2.1.symm.trans hown2)
  have hal : ad E t i < H.size := (Array.getElem?_eq_some_iff.mp q1).1
  have eq1 : (H.setIfInBounds (ad E t i) (cell.setSlot fd.slot (cv E v)))[ad E t i]? = some (cell.setSlot fd.slot (cv E v)) := by simp [Array.getElem?_setIfInBounds, hal]
  have eq2 : (H.setIfInBounds (ad E t i) (cell.setSlot fd.slot (cv E v))).size = H.size := by simp
  have eq3 : ∀ q, q ≠ ad E t i → (H.setIfInBounds (ad E t i) (cell.setSlot fd.slot (cv E v)))[q]? = H[q]? := fun q hq => by simp [Array.getElem?_setIfInBounds, Ne.symm hq]
  refine W.putf F.1 F.2.1 F.2.2.2.1 (F.2.2.2.2.1 _ hlk) hi hst hfin2 q1 (by rw [q3]; exact fun h => by cases h) (by rw [hsl]; exact k2_hasslot (q4 f hf)) g1 (by rw [q2, q3]; exact g2) rfl rfl hd ?_
  generalize H.setIfInBounds (ad E t i) (cell.setSlot fd.slot (cv E v)) = H1 at eq1 eq2 eq3 ⊢
  refine k p e Rm s m args below meth c F h1 h2 h3 h4 als H1 _ hl (vt1 (vt1 v1)) v2 (hW.put hvd eq2 eq3 ?_ (fun t2 i2 hne => ⟨(ho t2 i2 hne).1, rfl, (ho t2 i2 hne).2⟩) (hr H hW hvd (vh1 v1))) (hS.put eq2 eq3 hAa)
  rw [cell_o E I1 L R1 Z ht]
  rw [hsl] at eq1
  refine ⟨_, cl_at t ht, t_OB.to (V := updV (fV E I R t i) f (cv E v)) ⟨_, eq1, q2, q3, ?_⟩ (fun j hj => (hV j hj).trans (fV_V E I1 R1 t i hj).symm)⟩
  exact t_set (fun k2 hk2 => by rw [q4 k2 hk2, fV_V E I R t i hk2]) hap hf (cv E v)
theorem aw_putI {idx t i f : Nat} {x : Int32} (hd : Dc M pc (.putfield idx) 3 pc2) (hl : FL M.1.cls idx t f) (k : AWq l E d M Z0 pc2 ls st (sI I t i f x) L R Z Q) (hf : fr t f = false := by rfl) (hty : Ty t f = .int := by rfl) (hfin : (Tt t f).2.2.2 = false ∨ ((Tt t f).2.2.2 = true ∧ M.1.name = "<init>" ∧ (Tt t f).1 = M.1.cls) := by first | exact Or.inl rfl | exact Or.inr ⟨rfl, rfl, rfl⟩) : AWq l E d M Z0 pc ls (vi x :: vr t i :: st) I L R Z Q := by
  refine aw_putf (v := vi x) (I1 := sI I t i f x) (R1 := R) hd hl hfin (by rw [hty]; rfl) (by rw [hty]; rfl) (fun j hj => ?_) (fun t2 i2 hne => ⟨sI_n hne, rfl⟩) (fun H hW hvd _ k q hq => hW.2.2 t i k q hq hvd) k
  unfold updV fV
  rw [sI_s]
  by_cases e : j = f
  · subst e
    rw [if_pos rfl, hf]
    simp [upd, cv]
  · rw [if_neg e]
    simp [upd, e]
theorem aw_putZ {idx t i f : Nat} {x : Int32} (hd : Dc M pc (.putfield idx) 3 pc2) (hl : FL M.1.cls idx t f) (hx : x = 0 ∨ x = 1) (k : AWq l E d M Z0 pc2 ls st (sI I t i f x) L R Z Q) (hf : fr t f = false := by rfl) (hty : Ty t f = .boolean := by rfl) (hfin : (Tt t f).2.2.2 = false := by rfl) : AWq l E d M Z0 pc ls (vi x :: vr t i :: st) I L R Z Q := by
  refine aw_putf (v := vi x) (I1 := sI I t i f x) (R1 := R) hd hl (Or.inl hfin) (by rw [hty]; rcases hx with rfl | rfl <;> rfl) (by rw [hty]; rcases hx with rfl | rfl <;> rfl) (fun j hj => ?_) (fun t2 i2 hne => ⟨sI_n hne, rfl⟩) (fun H hW hvd _ k q hq => hW.2.2 t i k q hq hvd) k
  unfold updV fV
  rw [sI_s]
  by_cases e : j = f
  · subst e
    rw [if_pos rfl, hf]
    simp [upd, cv]
  · rw [if_neg e]
    simp [upd, e]
theorem up_s {α : Type} (f : Nat → α) (k : Nat) (v : α) : va_up f k v k = v := if_pos rfl
theorem up_n {α : Type} {f : Nat → α} {k j : Nat} {v : α} (h : ¬ j = k) : va_up f k v j = f j := if_neg h
/-- a final reference, in a constructor -/
theorem aw_putR {idx t i f t2 i2 : Nat} (hd : Dc M pc (.putfield idx) 3 pc2) (hl : FL M.1.cls idx t f) (k : AWq l E d M Z0 pc2 ls st I L (sR R t i f (some (t2, i2))) Z Q) (hf : fr t f = true := by rfl) (hty : refKind (Ty t f) = true := by rfl) (hfin : (Tt t f).2.2.2 = true ∧ M.1.name = "<init>" ∧ (Tt t f).1 = M.1.cls := by exact ⟨rfl, rfl, rfl⟩) : AWq l E d M Z0 pc ls (vr t2 i2 :: vr t i :: st) I L R Z Q := by
  have h0 : narrow (Ty t f) (.ref (ad E t2 i2)) = .ref (ad E t2 i2) ∧ fits (Ty t f) (.ref (ad E t2 i2)) = true := by
    revert hty
    cases Ty t f <;> intro h <;> first | exact ⟨rfl, rfl⟩ | cases h
  refine aw_putf (v := vr t2 i2) (I1 := I) (R1 := sR R t i f (some (t2, i2))) hd hl (Or.inr hfin) h0.1 h0.2 (fun j hj => ?_) (fun t2 i2 hne => ⟨rfl, sR_n hne⟩) (fun H hW hvd hv k q hq => ?_) k
  · unfold updV fV
    rw [sR_s]
    by_cases e : j = f
    · subst e
      rw [if_pos rfl, hf]
      simp [va_up, cv, cR, va_rf]
    · rw [if_neg e]
      simp [va_up, e]
  · rw [sR_s] at hq
    by_cases e : k = f
    · subst e
      rw [up_s] at hq
      cases hq
      exact hv
    · rw [up_n e] at hq
      exact hW.2.2 t i k q hq hvd
/-! ===== arrays ===== -/
theorem in_nI {n N : Nat} (h : n < N) (h2 : n < 2147483648) : ¬ (nI n < 0 ∨ N ≤ (nI n).toNatClampNeg) := by
  rw [nI_clamp h2]
  rintro (q | q)
  · exact nI_pos h2 q
  · omega
theorem af_ad {E : En} {t i : Nat} (h : t < 50) : Af E (ad E t i) := by unfold Af ad; rw [if_pos h]; omega
theorem aw_iald {t i n : Nat} {x : Int32} (hd : Dc M pc .iaload 1 pc2) (hx : x = nI n) (hn : n < alen Z t i) (hb : n < 2147483648) (k : AWq l E d M Z0 pc2 ls (vi (I t i n) :: st) I L R Z Q) (ht : 10 ≤ t ∧ t < 50 ∧ tc t = 0 := by exact ⟨by decide, by decide, rfl⟩) : AWq l E d M Z0 pc ls (vi x :: vr t i :: st) I L R Z Q := by
  obtain ⟨hd, rfl⟩ := hd
  subst hx
  refine k.lift (fun v1 v2 => ⟨vc1 trivial (vt1 (vt1 v1)), v2⟩) (fun p e Rm s m args below meth c cells slots Qs F als H locs hl v1 hW hS kk => ?_)
  have hat := hW.at (vd_of (vh1 (vt1 v1)) ht.2.1)
  rw [cell_i E I L R Z ht.1 (by omega) (by omega), ht.2.2] at hat
  refine W.iald F.1 F.2.1 hat ((F.2.2.2.2.2.1.1.2 0 _ (tys_at E (by decide))).1 _ (fun j => .int (I t i j))) (fun q => by cases q) (by show ¬ (_ ∨ (arrV _ _ _).slots.size ≤ _); rw [arrV_size]; exact in_nI hn hb) (v := .int (I t i n)) ?_ rfl rfl hd (kk als hl)
  show (arrV _ _ _).slots[_]? = _
  rw [nI_clamp hb, arrV_read _ _ hn]
theorem aw_bald {t i n : Nat} {x : Int32} (hd : Dc M pc .baload 1 pc2) (hx : x = nI n) (hn : n < alen Z t i) (hb : n < 2147483648) (k : AWq l E d M Z0 pc2 ls (vi (I t i n) :: st) I L R Z Q) (ht : 10 ≤ t ∧ t < 50 ∧ tc t = 2 := by exact ⟨by decide, by decide, rfl⟩) : AWq l E d M Z0 pc ls (vi x :: vr t i :: st) I L R Z Q := by
  obtain ⟨hd, rfl⟩ := hd
  subst hx
  refine k.lift (fun v1 v2 => ⟨vc1 trivial (vt1 (vt1 v1)), v2⟩) (fun p e Rm s m args below meth c cells slots Qs F als H locs hl v1 hW hS kk => ?_)
  have hat := hW.at (vd_of (vh1 (vt1 v1)) ht.2.1)
  rw [cell_i E I L R Z ht.1 (by omega) (by omega), ht.2.2] at hat
  refine W.bald F.1 F.2.1 hat ((F.2.2.2.2.2.1.1.2 2 _ (tys_at E (by decide))).1 _ (fun j => .int (I t i j))) (fun q => by cases q) (by show ¬ (_ ∨ (arrV _ _ _).slots.size ≤ _); rw [arrV_size]; exact in_nI hn hb) (v := .int (I t i n)) ?_ rfl rfl hd (kk als hl)
  show (arrV _ _ _).slots[_]? = _
  rw [nI_clamp hb, arrV_read _ _ hn]
theorem aw_lald {t i n : Nat} {x : Int32} (hd : Dc M pc .laload 1 pc2) (hx : x = nI n) (hn : n < alen Z t i) (hb : n < 2147483648) (k : AWq l E d M Z0 pc2 ls (vl (L t i n) :: st) I L R Z Q) (ht : 10 ≤ t ∧ t < 50 ∧ tc t = 1 := by exact ⟨by decide, by decide, rfl⟩) : AWq l E d M Z0 pc ls (vi x :: vr t i :: st) I L R Z Q := by
  obtain ⟨hd, rfl⟩ := hd
  subst hx
  refine k.lift (fun v1 v2 => ⟨vc1 trivial (vt1 (vt1 v1)), v2⟩) (fun p e Rm s m args below meth c cells slots Qs F als H locs hl v1 hW hS kk => ?_)
  have hat := hW.at (vd_of (vh1 (vt1 v1)) ht.2.1)
  rw [cell_l E I L R Z ht.1 ht.2.2] at hat
  refine W.lald F.1 F.2.1 hat ((F.2.2.2.2.2.1.1.2 1 _ (tys_at E (by decide))).1 _ (fun j => .long (L t i j))) (fun q => by cases q) (by show ¬ (_ ∨ (arrV _ _ _).slots.size ≤ _); rw [arrV_size]; exact in_nI hn hb) (v := .long (L t i n)) ?_ rfl rfl hd (kk als hl)
  show (arrV _ _ _).slots[_]? = _
  rw [nI_clamp hb, arrV_read _ _ hn]
theorem aw_aald {t i n : Nat} {x : Int32} {r : Option (Nat × Nat)} (hd : Dc M pc .aaload 1 pc2) (hx : x = nI n) (hn : n < alen Z t i) (hb : n < 2147483648) (hr : R t i n = r) (k : AWq l E d M Z0 pc2 ls (vo r :: st) I L R Z Q) (ht : 10 ≤ t ∧ t < 50 ∧ 3 ≤ tc t ∧ tc t < 8 ∧ (tcT (tc t)).isReference = true := by exact ⟨by decide, by decide, by decide, by decide, rfl⟩) : AWq l E d M Z0 pc ls (vi x :: vr t i :: st) I L R Z Q := by
  obtain ⟨hd, rfl⟩ := hd
  subst hx
  obtain ⟨r1, I2, L2, R2, Z2, hq, hz, k⟩ := k
  refine ⟨r1, I2, L2, R2, Z2, hq, hz, fun p e Rm s m args below meth c F h1 h2 h3 h4 als H locs hl v1 v2 hW hS => ?_⟩
  have hvd : VD Z t i := vd_of (vh1 (vt1 v1)) ht.2.1
  have hat := hW.at hvd
  rw [cell_r E I L R Z ht.1 ht.2.2.1] at hat
  have hvr : vv Z (vo r) := by
    cases hr2 : r with
    | none => trivial
    | some q => exact hW.2.2 t i n q (hr.trans hr2) hvd
  refine W.aald F.1 F.2.1 hat ((F.2.2.2.2.2.1.1.2 (tc t) _ (tys_at E ht.2.2.2.1)).1 _ (fun j => va_rf (cR E (R t i j)))) ht.2.2.2.2 (fun q => by cases q) (by show ¬ (_ ∨ (arrV _ _ _).slots.size ≤ _); rw [arrV_size]; exact in_nI hn hb) (v := cv E (vo r)) ?_ rfl rfl hd (k p e Rm s m args below meth c F h1 h2 h3 h4 als H locs hl (vc1 hvr (vt1 (vt1 v1))) v2 hW hS)
  show (arrV _ _ _).slots[_]? = _
  rw [nI_clamp hb, arrV_read _ _ hn, cv_o, ← hr]
theorem aw_alen {t i : Nat} {v : Int32} (hd : Dc M pc .arraylength 1 pc2) (hv : nI (alen Z t i) = v) (k : AWq l E d M Z0 pc2 ls (vi v :: st) I L R Z Q) (ht : 10 ≤ t ∧ t < 50 ∧ tc t < 8 := by exact ⟨by decide, by decide, by decide⟩) : AWq l E d M Z0 pc ls (vr t i :: st) I L R Z Q := by
  obtain ⟨hd, rfl⟩ := hd
  refine k.lift (fun v1 v2 => ⟨vc1 trivial (vt1 v1), v2⟩) (fun p e Rm s m args below meth c cells slots Qs F als H locs hl v1 hW hS kk => ?_)
  have hat := hW.at (vd_of (vh1 v1) ht.2.1)
  have hK := F.2.2.2.2.2.1.1
  by_cases h1 : tc t = 1
  · rw [cell_l E I L R Z ht.1 h1] at hat
    exact va_alen F.1 F.2.1 hK (va_one hat) 0 1 rfl (tys_at E (by decide)) hv hd (kk als hl)
  · by_cases h2 : tc t < 3
    · rw [cell_i E I L R Z ht.1 h2 h1] at hat
      exact va_alen F.1 F.2.1 hK (va_one hat) 0 (tc t) rfl (tys_at E ht.2.2) hv hd (kk als hl)
    · rw [cell_r E I L R Z ht.1 (by omega)] at hat
      exact va_alen F.1 F.2.1 hK (va_one hat) 0 (tc t) rfl (tys_at E ht.2.2) hv hd (kk als hl)
theorem arr_upd (cA : ClassId) (n k : Nat) (f : Nat → Int32) (x : Int32) : arrV cA n (updV (fun j => .int (f j)) k (.int x)) = vp_cell cA (n, .inl (upd f k x)) := by
  rw [vp_cell_i]
  congr 1
  funext q
  by_cases hq : q = k
  · subst hq
    simp [updV, upd]
  · simp [updV, upd, hq]
theorem arr_updL (cA : ClassId) (n k : Nat) (f : Nat → Int64) (x : Int64) : arrV cA n (updV (fun j => .long (f j)) k (.long x)) = vp_cell cA (n, .inr (.inl (vp_updL f k x))) := by
  rw [vp_cell_l]
  congr 1
  funext q
  by_cases hq : q = k
  · subst hq
    simp [updV, vp_updL]
  · simp [updV, vp_updL, hq]
theorem arr_updR (cA : ClassId) (n k : Nat) (f : Nat → Option Nat) (x : Option Nat) : arrV cA n (updV (fun j => va_rf (f j)) k (va_rf x)) = vp_cell cA (n, .inr (.inr (.inr (.inr (va_up f k x))))) := by
  rw [vp_cell_q]
  congr 1
  funext q
  by_cases hq : q = k
  · subst hq
    simp [updV, va_up]
  · simp [updV, va_up, hq]
theorem aw_iast {t i n : Nat} {x y : Int32} (hd : Dc M pc .iastore 1 pc2) (hx : x = nI n) (hn : n < alen Z t i) (hb : n < 2147483648) (k : AWq l E d M Z0 pc2 ls st (sI I t i n y) L R Z Q) (ht : 10 ≤ t ∧ t < 50 ∧ tc t = 0 := by exact ⟨by decide, by decide, rfl⟩) : AWq l E d M Z0 pc ls (vi y :: vi x :: vr t i :: st) I L R Z Q := by
  obtain ⟨hd, rfl⟩ := hd
  subst hx
  obtain ⟨r, I2, L2, R2, Z2, hq, hz, k⟩ := k
  refine ⟨r, I2, L2, R2, Z2, hq, hz, fun p e Rm s m args below meth c F h1 h2 h3 h4 als H locs hl v1 v2 hW hS => ?_⟩
  have hvd : VD Z t i := vd_of (vh1 (vt1 (vt1 v1))) ht.2.1
  have hat := hW.at hvd
  rw [cell_i E I L R Z ht.1 (by omega) (by omega), ht.2.2] at hat
  refine W.iast F.1 F.2.1 hat ((F.2.2.2.2.2.1.1.2 0 _ (tys_at E (by decide))).1 _ (fun j => .int (I t i j))) (fun q => by cases q) (by show ¬ (_ ∨ (arrV _ _ _).slots.size ≤ _); rw [arrV_size]; exact in_nI hn hb) rfl rfl hd fun H1 e1 e2 e3 => ?_
  refine k p e Rm s m args below meth c F h1 h2 h3 h4 als H1 _ hl (vt1 (vt1 (vt1 v1))) v2 (hW.put hvd e2 e3 ?_ (fun t2 i2 hne => ⟨sI_n hne, rfl, rfl⟩) (fun k q hq => hW.2.2 t i k q hq hvd)) (hS.put e2 e3 (af_ad ht.2.1))
  rw [cell_i E _ L R Z ht.1 (by omega) (by omega), ht.2.2, sI_s]
  show H1[_]? = some (vp_cell _ _)
  rw [e1, nI_clamp hb, ← arr_upd, ← arrV_store]
  rfl
theorem aw_bast {t i n : Nat} {x y : Int32} (hd : Dc M pc .bastore 1 pc2) (hx : x = nI n) (hn : n < alen Z t i) (hb : n < 2147483648) (k : AWq l E d M Z0 pc2 ls st (sI I t i n y.toInt8.toInt32) L R Z Q) (ht : 10 ≤ t ∧ t < 50 ∧ tc t = 2 := by exact ⟨by decide, by decide, rfl⟩) : AWq l E d M Z0 pc ls (vi y :: vi x :: vr t i :: st) I L R Z Q := by
  obtain ⟨hd, rfl⟩ := hd
  subst hx
  obtain ⟨r, I2, L2, R2, Z2, hq, hz, k⟩ := k
  refine ⟨r, I2, L2, R2, Z2, hq, hz, fun p e Rm s m args below meth c F h1 h2 h3 h4 als H locs hl v1 v2 hW hS => ?_⟩
  have hvd : VD Z t i := vd_of (vh1 (vt1 (vt1 v1))) ht.2.1
  have hat := hW.at hvd
  rw [cell_i E I L R Z ht.1 (by omega) (by omega), ht.2.2] at hat
  refine W.bast F.1 F.2.1 hat ((F.2.2.2.2.2.1.1.2 2 _ (tys_at E (by decide))).1 _ (fun j => .int (I t i j))) (fun q => by cases q) (by show ¬ (_ ∨ (arrV _ _ _).slots.size ≤ _); rw [arrV_size]; exact in_nI hn hb) rfl rfl hd fun H1 e1 e2 e3 => ?_
  refine k p e Rm s m args below meth c F h1 h2 h3 h4 als H1 _ hl (vt1 (vt1 (vt1 v1))) v2 (hW.put hvd e2 e3 ?_ (fun t2 i2 hne => ⟨sI_n hne, rfl, rfl⟩) (fun k q hq => hW.2.2 t i k q hq hvd)) (hS.put e2 e3 (af_ad ht.2.1))
  rw [cell_i E _ L R Z ht.1 (by omega) (by omega), ht.2.2, sI_s]
  show H1[_]? = some (vp_cell _ _)
  rw [e1, nI_clamp hb, ← arr_upd, ← arrV_store]
  rfl
theorem aw_last {t i n : Nat} {x : Int32} {y : Int64} (hd : Dc M pc .lastore 1 pc2) (hx : x = nI n) (hn : n < alen Z t i) (hb : n < 2147483648) (k : AWq l E d M Z0 pc2 ls st I (sL L t i n y) R Z Q) (ht : 10 ≤ t ∧ t < 50 ∧ tc t = 1 := by exact ⟨by decide, by decide, rfl⟩) : AWq l E d M Z0 pc ls (vl y :: vi x :: vr t i :: st) I L R Z Q := by
  obtain ⟨hd, rfl⟩ := hd
  subst hx
  obtain ⟨r, I2, L2, R2, Z2, hq, hz, k⟩ := k
  refine ⟨r, I2, L2, R2, Z2, hq, hz, fun p e Rm s m args below meth c F h1 h2 h3 h4 als H locs hl v1 v2 hW hS => ?_⟩
  have hvd : VD Z t i := vd_of (vh1 (vt1 (vt1 v1))) ht.2.1
  have hat := hW.at hvd
  rw [cell_l E I L R Z ht.1 ht.2.2] at hat
  refine W.last F.1 F.2.1 hat ((F.2.2.2.2.2.1.1.2 1 _ (tys_at E (by decide))).1 _ (fun j => .long (L t i j))) (fun q => by cases q) (by show ¬ (_ ∨ (arrV _ _ _).slots.size ≤ _); rw [arrV_size]; exact in_nI hn hb) rfl rfl hd fun H1 e1 e2 e3 => ?_
  refine k p e Rm s m args below meth c F h1 h2 h3 h4 als H1 _ hl (vt1 (vt1 (vt1 v1))) v2 (hW.put hvd e2 e3 ?_ (fun t2 i2 hne => ⟨rfl, sL_n hne, rfl⟩) (fun k q hq => hW.2.2 t i k q hq hvd)) (hS.put e2 e3 (af_ad ht.2.1))
  rw [cell_l E I _ R Z ht.1 ht.2.2, sL_s]
  show H1[_]? = some (vp_cell _ _)
  rw [e1, nI_clamp hb, ← arr_updL, ← arrV_store]
  rfl
/-- an object comes to a row of objects of its class -/
theorem aw_aast {t i n t2 i2 : Nat} {x : Int32} (hd : Dc M pc .aastore 1 pc2) (hx : x = nI n) (hn : n < alen Z t i) (hb : n < 2147483648) (k : AWq l E d M Z0 pc2 ls st I L (sR R t i n (some (t2, i2))) Z Q) (ht : 10 ≤ t ∧ t < 50 ∧ 3 ≤ tc t ∧ tc t < 8 ∧ t2 < 10 ∧ tcT (tc t) = .object (Rn t2) := by exact ⟨by decide, by decide, by decide, by decide, by decide, rfl⟩) : AWq l E d M Z0 pc ls (vr t2 i2 :: vi x :: vr t i :: st) I L R Z Q := by
  obtain ⟨hd, rfl⟩ := hd
  subst hx
  obtain ⟨r, I2, L2, R2, Z2, hq, hz, k⟩ := k
  refine ⟨r, I2, L2, R2, Z2, hq, hz, fun p e Rm s m args below meth c F h1 h2 h3 h4 als H locs hl v1 v2 hW hS => ?_⟩
  obtain ⟨ht1, ht2, ht3, ht4, ht5, ht6⟩ := ht
  have hvd : VD Z t i := vd_of (vh1 (vt1 (vt1 v1))) ht2
  have hat := hW.at hvd
  have hvd2 : VD Z t2 i2 := vd_of (vh1 v1) (by omega)
  have hat2 := hW.at hvd2
  have hK := F.2.2.2.2.2.1.1
  rw [cell_r E I L R Z ht1 ht3] at hat
  rw [cell_o E I L R Z ht5] at hat2
  obtain ⟨r', hr', cellV, g1, g2, g3, -⟩ := hat2
  have hcls := (hK.1 t2 _ (cl_at t2 ht5)).2
  have hra := (hK.2 (tc t) _ (tys_at E ht4)).2
  rw [ht6] at hra
  obtain ⟨kA, comp, k1, k2, k3, -⟩ := hra
  have hcomp : comp = E.1.1 t2 := Option.some.inj (k3.symm.trans hcls.1)
  subst hcomp
  obtain ⟨kC, hkC, -⟩ := hcls.2
  have hin := in_nI hn hb
  refine W.aast F.1 F.2.1 hat (fun q h => by cases h) (fun h => by cases h) k1 k2 rfl hkC ⟨fun q => hin (Or.inl q), by show _ < (arrV _ _ _).slots.size; rw [arrV_size, nI_clamp hb]; exact hn⟩ g1 (fun q h => by rw [g3] at h; cases h) (by rw [g2]; exact hkC) (by rw [g2]; exact va_assign hcls) rfl rfl hd fun H1 e1 e2 e3 => ?_
  refine k p e Rm s m args below meth c F h1 h2 h3 h4 als H1 _ hl (vt1 (vt1 (vt1 v1))) v2 (hW.put hvd e2 e3 ?_ (fun t2 i2 hne => ⟨rfl, rfl, sR_n hne⟩) (fun k q hq => ?_)) (hS.put e2 e3 (af_ad ht2))
  · rw [cell_r E I L _ Z ht1 ht3, sR_s]
    show H1[_]? = some (vp_cell _ _)
    have e4 : (fun j => cR E (va_up (R t i) n (some (t2, i2)) j)) = va_up (fun j => cR E (R t i j)) n (some (ad E t2 i2)) := by
      funext j
      by_cases e : j = n
      · subst e
        rw [up_s, up_s]
        rfl
      · rw [up_n e, up_n e]
    rw [e1, nI_clamp hb, e4, ← arr_updR, ← arrV_store]
    rfl
  · rw [sR_s] at hq
    by_cases e : k = n
    · subst e
      rw [up_s] at hq
      cases hq
      exact Or.inr hvd2
    · rw [up_n e] at hq
      exact hW.2.2 t i k q hq hvd
/-! ===== ends ===== -/
theorem aw_iret {x : Int32} {ty : FieldType} (hd : Dc M pc .ireturn 1 pc2) (hr : M.2.2.2 = some ty) (hn : narrow ty (.int x) = .int x) (hq : Q (some (vi x)) I L R Z) : AWq l E d M Z0 pc ls [vi x] I L R Z Q := by
  obtain ⟨hd, -⟩ := hd
  refine ⟨some (vi x), I, L, R, Z, hq, ⟨Nat.le_refl _, Nat.le_refl _⟩, fun p e Rm s m args below meth c F h1 h2 h3 h4 als H locs hl v1 v2 hW hS => ?_⟩
  exact W.zret F.1 F.2.1 (F.2.2.2.2.2.2.1.trans hr) hn (fun t ht hwm => ⟨rfl, by rw [ht]; exact hW, fun v hv => by cases hv; trivial, hS.F ht⟩) hS.2.2 hd F.2.2.2.2.2.2.2.1
theorem aw_lret {x : Int64} (hd : Dc M pc .lreturn 1 pc2) (hr : M.2.2.2 = some .long) (hq : Q (some (vl x)) I L R Z) : AWq l E d M Z0 pc ls [vl x] I L R Z Q := by
  obtain ⟨hd, -⟩ := hd
  refine ⟨some (vl x), I, L, R, Z, hq, ⟨Nat.le_refl _, Nat.le_refl _⟩, fun p e Rm s m args below meth c F h1 h2 h3 h4 als H locs hl v1 v2 hW hS => ?_⟩
  exact W.lret F.1 F.2.1 (F.2.2.2.2.2.2.1.trans hr) (fun t ht hwm => ⟨rfl, by rw [ht]; exact hW, fun v hv => by cases hv; trivial, hS.F ht⟩) hS.2.2 hd F.2.2.2.2.2.2.2.1
theorem aw_vret (hd : Dc M pc .return_ 1 pc2) (hr : M.2.2.2 = none) (hq : Q none I L R Z) : AWq l E d M Z0 pc ls [] I L R Z Q := by
  obtain ⟨hd, -⟩ := hd
  refine ⟨none, I, L, R, Z, hq, ⟨Nat.le_refl _, Nat.le_refl _⟩, fun p e Rm s m args below meth c F h1 h2 h3 h4 als H locs hl v1 v2 hW hS => ?_⟩
  exact W.vret F.1 F.2.1 (F.2.2.2.2.2.2.1.trans hr) (fun t ht hwm => ⟨rfl, by rw [ht]; exact hW, fun v hv => (by cases hv), hS.F ht⟩) hS.2.2 hd F.2.2.2.2.2.2.2.1
theorem aw_aret {r : Option (Nat × Nat)} {rt : FieldType} (hd : Dc M pc .areturn 1 pc2) (hr : M.2.2.2 = some rt) (hrt : (∃ n, rt = .object n) ∨ ∃ t, rt = .array t) (hq : Q (some (vo r)) I L R Z) : AWq l E d M Z0 pc ls [vo r] I L R Z Q := by
  obtain ⟨hd, -⟩ := hd
  refine ⟨some (vo r), I, L, R, Z, hq, ⟨Nat.le_refl _, Nat.le_refl _⟩, fun p e Rm s m args below meth c F h1 h2 h3 h4 als H locs hl v1 v2 hW hS => ?_⟩
  exact W.aret F.1 F.2.1 (F.2.2.2.2.2.2.1.trans hr) hrt (by cases r with
    | none => exact Or.inl rfl
    | some q => exact Or.inr ⟨_, rfl⟩) (fun t ht hwm => ⟨rfl, by rw [ht]; exact hW, fun v hv => by cases hv; exact vh1 v1, hS.F ht⟩) hS.2.2 hd F.2.2.2.2.2.2.2.1
end HEAP
end
section
/-! ===== calls ===== -/
def rst : Option AV → List AV → List AV
  | some v, st => v :: st
  | none, st => st
def MF (M : Mt) (n : Nat) : Prop := Cond.code M.1 M.2.1 M.2.2.1 M.2.2.2 ∈ G ∧ Cond.initialized M.1.cls ∈ G ∧ (M.1.cls ≠ "java/lang/invoke/MethodHandle" ∧ M.1.cls ≠ "java/lang/invoke/VarHandle" ∧ (parseMethodDescriptor M.1.desc).map (fun d => d.parameters.length) = some n) ∧ M.2.2.1 ≤ 21 ∧ plainFor M.1 = true
def MV (M : Mt) : Prop := Cond.instanceMethod M.1 ∈ G ∧ Cond.selects M.1.cls M.1 M.1 ∈ G
def MS (M : Mt) : Prop := Cond.static M.1 ∈ G
def MI (M : Mt) : Prop := Cond.instanceMethod M.1 ∈ G ∧ M.1.name = "<init>" ∧ M.2.2.2 = none
def wd (v : AV) : Nat := if isLg (some v) then 2 else 1
theorem wd_cat (E : En) (v : AV) : (cv E v).category = wd v := by
  match v with
  | .inl _ => rfl
  | .inr (.inl _) => rfl
  | .inr (.inr none) => rfl
  | .inr (.inr (some _)) => rfl
theorem wd_sum (E : En) (st : List AV) : ((st.map (cv E)).map fun v => v.category).sum = (st.map wd).sum := by
  rw [List.map_map]
  congr 1
  exact List.map_congr_left (fun v _ => wd_cat E v)
theorem PcM.blind {E : En} {as : List AV} {I : It} {L : Lt} {R : Rt} {Z : Zt} : FrameBlind (PcM E as I L R Z) := fun a U g mk h => by
  obtain ⟨h1, h2, h3, h4⟩ := h
  exact ⟨h1, StF.same (s := U) rfl h2, h3, h4⟩
theorem goodM {M : Mt} {n : Nat} (h : MF M n) : GoodIn G (wsM M) := fun w hw => by
  rcases List.mem_cons.mp hw with rfl | h1
  · exact ⟨h.1, G_good _ h.1⟩
  · exact ⟨h1, G_good _ h1⟩
section ENTRY
variable {l : Launch} {E : En} {d : Nat} {M : Mt} {I : It} {L : Lt} {R : Rt} {Z : Zt} {Q : Qt}
/-- the locals at a method's entry -/
def lE : List AV → List (Option AV)
  | [] => []
  | v :: t => if isLg (some v) then some v :: none :: lE t else some v :: lE t
theorem lE_args (E : En) : ∀ (as : List AV) (k : Nat), lv_args k (as.map (cv E)) = (lvP (lE as) k).map fun q => (q.1, cv E q.2)
  | [], k => rfl
  | v :: t, k => by
    by_cases h : isLg (some v) = true
    · have h2 : (cv E v).category = 2 := (cv_cat E v).mpr h
      unfold lE
      rw [if_pos h]
      simp only [List.map_cons, lv_args, lvP, h2, Nat.add_assoc]
      rw [if_pos trivial, lE_args E t (k + 2)]
    · have h3 : isLg (some v) = false := by simpa using h
      have h2 : (cv E v).category = 1 := cat1 E h3
      unfold lE
      rw [if_neg h]
      simp only [List.map_cons, lv_args, lvP, h2]
      rw [if_neg (by decide), lE_args E t (k + 1)]
theorem lvP_rep (n k : Nat) : lvP (List.replicate n none) k = [] := by
  induction n generalizing k with
  | zero => rfl
  | succ n ih => rw [List.replicate_succ]; exact ih (k + 1)
theorem lvP_app (a b : List (Option AV)) (k : Nat) : lvP (a ++ b) k = lvP a k ++ lvP b (k + a.length) := by
  induction a generalizing k with
  | nil => rfl
  | cons x t ih =>
    cases x with
    | none =>
      show lvP (t ++ b) (k + 1) = lvP t (k + 1) ++ _
      rw [ih, List.length_cons]
      congr 2
      omega
    | some v =>
      show (k, v) :: lvP (t ++ b) (k + 1) = (k, v) :: lvP t (k + 1) ++ _
      rw [ih, List.length_cons, List.cons_append]
      congr 3
      omega
theorem lE_mem {v : AV} : ∀ (as : List AV), some v ∈ lE as → v ∈ as
  | [], h => by cases h
  | w :: t, h => by
    unfold lE at h
    split at h
    · rcases List.mem_cons.mp h with e | h
      · cases e
        exact List.mem_cons_self
      · rcases List.mem_cons.mp h with e | h
        · cases e
        · exact List.mem_cons_of_mem _ (lE_mem t h)
    · rcases List.mem_cons.mp h with e | h
      · cases e
        exact List.mem_cons_self
      · exact List.mem_cons_of_mem _ (lE_mem t h)
theorem lE_len (E : En) : ∀ (as : List AV), (lg_sl (as.map (cv E))).length = (lE as).length
  | [] => rfl
  | v :: t => by
    have ih := lE_len E t
    by_cases h : isLg (some v) = true
    · have h2 : (cv E v).category = 2 := (cv_cat E v).mpr h
      unfold lE
      rw [if_pos h]
      simp [lg_sl, h2] at ih ⊢
      omega
    · have h3 : isLg (some v) = false := by simpa using h
      have h2 : (cv E v).category = 1 := cat1 E h3
      unfold lE
      rw [if_neg h]
      simp [lg_sl, h2] at ih ⊢
      omega
/-- a contract out of a walk from the entry -/
theorem AMet.of {as : List AV} {n : Nat} (hf : MF M n) {ls : List (Option AV)} (hls : lE as ++ List.replicate (M.2.2.1 - (lE as).length) none = ls) (hle : (lE as).length ≤ M.2.2.1) (k : AWq l E d M Z 0 ls [] I L R Z Q) : AMet l E d M as I L R Z Q := by
  obtain ⟨r, I2, L2, R2, Z2, hq, hz, k⟩ := k
  refine ⟨r, I2, L2, R2, Z2, hq, hz, ?_⟩
  refine va_MetF (cc := M.2.1) (maxL := M.2.2.1) (ret := M.2.2.2) hf.2.2.2.2 rfl ?_
  intro p e s m args below meth c s₁ B hml hv
  obtain ⟨rfl, hSt, hW, hvv⟩ := hv
  have hts := atoms_spec (ws := wsM M) B.pre
  have F : Fx E d M p (headSpec (wsM M) (rmM d (Z2.2.1 - Z.2.1) (Z2.2.2 - Z.2.2))).room s m (as.map (cv E)).toArray meth c := ⟨B.exec, B.bytes, hml, findClass_of_methodNamed B.named, fun w hw => hts w (List.mem_cons_of_mem _ hw), hSt, B.returns, B.notSynchronized, (name_of_methodNamed B.named B.method).1, Nat.le_refl _, Nat.le_refl _, by rw [hW.1]; omega⟩
  have hl := lv_entry (as.map (cv E)) (n := M.2.2.1) (by rw [lE_len]; exact hle)
  rw [lg_entry_eq]
  generalize (lg_sl (as.map (cv E)) ++ List.replicate (M.2.2.1 - (lg_sl (as.map (cv E))).length) Slot.unset).toArray = als at hl ⊢
  have hl2 : lvH E als M.2.2.1 ls := by
    refine ⟨?_, ?_⟩
    · rw [lE_args] at hl
      rw [← hls, lvP_app, lvP_rep, List.append_nil]
      exact hl
    · rw [← hls, List.length_append, List.length_replicate]
      omega
  have h := k p e _ s m _ below meth c F (Nat.le_refl _) (Nat.le_refl _) (Nat.le_refl _) (Nat.le_refl _) als s.heap [] hl2 (fun v hv => by cases hv) (fun v hv => by
    rw [← hls] at hv
    rcases List.mem_append.mp hv with h1 | h1
    · exact hvv v (lE_mem as h1)
    · have := (List.mem_replicate.mp h1).2
      cases this) hW va_S.rf
  rw [Nat.sub_self, Nat.sub_self] at h
  exact h
end ENTRY
section CALLS
variable {l : Launch} {E : En} {d : Nat} {M M2 : Mt} {Z0 : Zt} {pc pc2 tgt n : Nat} {ls : List (Option AV)} {st : List AV} {I : It} {L : Lt} {R : Rt} {Z : Zt} {Q : Qt}
theorem callG {p : Program} {e : Env} {Rm : Room} {s : State} {m : MethodId} {args : Array Value} {below : List Frame} {meth : Method} {c : Code} {H : Heap} {locs : List Loc} {cells slots mc ms : Nat} {Qs : State → Prop} {als : Array Slot} {st0 rest : List Value} {a : Array Value} {r : Option AV} {I1 : It} {L1 : Lt} {R1 : Rt} {Z1 : Zt}
    (hr : va_Run p l e Rm s m args below meth c H locs cells slots mc ms (F0 m pc als st0) rest (QcM E r I1 L1 R1 Z1 a) (Af E)) (hS : va_S (Af E) s.heap H locs)
    (kk : ∀ (H1 : Heap) (locs1 : List Loc), Wo E I1 L1 R1 Z1 H1 → (∀ v, r = some v → vv Z1 v) → va_S (Af E) s.heap H1 locs1 → W p l e Rm s m args below meth c H1 locs1 (cells + mc) (slots + ms) Qs (F0 m (pc + 3) als ((r.map (cv E)).toList ++ rest))) : W p l e Rm s m args below meth c H locs cells slots Qs (F0 m pc als st0) := by
  intro T hT X
  obtain ⟨v, st₀, t, T', L, h0, X', hL, e1, e2, ⟨hv, hw, hvv, hz, hk⟩, st⟩ := hr T hT X
  cases hv
  rw [h0] at hz hk
  obtain ⟨t2, a1, b1⟩ := kk T'.heap (locs ++ L) (by rw [e1]; exact hw) hvv
    ⟨Nat.le_trans hS.1 (by rw [e1]; exact hz), fun q h1 h2 => by rw [e1, hk q (Nat.lt_of_lt_of_le h1 hS.1) h2]; exact hS.2.1 q h1 h2, fun q hq => by
      rcases List.mem_append.mp hq with h | h
      · exact hS.2.2 q h
      · exact hL q h⟩ T' rfl X'
  exact ⟨t2, st t2 a1, b1⟩
theorem StF.at {s U : State} {H : Heap} {locs : List Loc} (h : StF E s s.heap) (hB : E.2.2.1 ≤ s.heap.size) (hS : va_S (Af E) s.heap H locs) (hU : U.heap = H) (hw : s.WarmedH U.vm) : StF E U U.heap := by
  rw [hU]
  exact (h.kept (H1 := H) (fun a h1 h2 => hS.2.1 a h1 h2) hB).moved hw
/-- what is behind a call -/
theorem AWq.call {as stk : List AV} (hm : AMet l E d M2 as I L R Z (fun r I1 L1 R1 Z1 => AWq l E (d + 1) M Z0 (pc + 3) ls (rst r st) I1 L1 R1 Z1 Q)) (hst : ∀ v, (∀ w ∈ stk, vv Z w) → v ∈ st → vv Z v)
    (hrun : ∀ (p : Program) (e : Env) (Rm : Room) (s : State) (m : MethodId) (args : Array Value) (below : List Frame) (meth : Method) (c : Code), Fx E (d + 1) M p Rm s m args meth c → ∀ (als : Array Slot) (H : Heap) (locs : List Loc) (cells slots mc ms : Nat) (Qc : Array Value → State → Outcome → State → Prop), als.size = M.2.2.1 → (∀ v ∈ stk, vv Z v) → Wo E I L R Z H → va_S (Af E) s.heap H locs → cells + mc ≤ Rm.cells ∧ slots + ms ≤ Rm.slots →
      Met l M2.1 (wsM M2) (rmM d mc ms) (PcM E as I L R Z) Qc mc ms (Af E) → va_Run p l e Rm s m args below meth c H locs cells slots mc ms (F0 m pc als (stk.map (cv E))) (st.map (cv E)) (Qc (as.map (cv E)).toArray) (Af E)) :
    AWq l E (d + 1) M Z0 pc ls stk I L R Z Q := by
  obtain ⟨r, I1, L1, R1, Z1, ⟨r2, I2, L2, R2, Z2, hq, hz2, k⟩, hz, hM⟩ := hm
  refine ⟨r2, I2, L2, R2, Z2, hq, ⟨Nat.le_trans hz.1 hz2.1, Nat.le_trans hz.2 hz2.2⟩, fun p e Rm s m args below meth c F h1 h2 h3 h4 als H locs hl v1 v2 hW hS => ?_⟩
  have hru := hrun p e Rm s m args below meth c F als H locs (Z.2.1 - Z0.2.1) (Z.2.2 - Z0.2.2) _ _ _ hl.1.1 v1 hW hS ⟨by have := hz.1; have := hz2.1; omega, by have := hz.2; have := hz2.2; omega⟩ hM
  refine callG hru hS (fun H1 locs1 hW1 hv1 hS1 => ?_)
  have e1 : Z.2.1 - Z0.2.1 + (Z1.2.1 - Z.2.1) = Z1.2.1 - Z0.2.1 := by have := hz.1; omega
  have e2 : Z.2.2 - Z0.2.2 + (Z1.2.2 - Z.2.2) = Z1.2.2 - Z0.2.2 := by have := hz.2; omega
  rw [e1, e2]
  have e3 : (r.map (cv E)).toList ++ st.map (cv E) = (rst r st).map (cv E) := by cases r <;> rfl
  rw [e3]
  refine k p e Rm s m args below meth c F h1 h2 (Nat.le_trans h3 hz.1) (Nat.le_trans h4 hz.2) als H1 locs1 hl (fun v hv => ?_) (fun v hv => (v2 v hv).mono hz.1) hW1 hS1
  cases r with
  | none => exact (hst v v1 hv).mono hz.1
  | some w =>
    rcases List.mem_cons.mp hv with e | hv
    · rw [e]
      exact hv1 w rfl
    · exact (hst v v1 hv).mono hz.1
theorem recv {s : State} {H : Heap} {t i : Nat} (hK : va_K E.1 classes (tys E) s) (hW : Wo E I L R Z H) (hvd : VD Z t i) (ht : t < 10) : ∃ cellB : Cell, H[ad E t i]? = some cellB ∧ cellB.vm.isStatics = false ∧ s.vm.findClass (Rn t) = some cellB.cls := by
  have hat := hW.at hvd
  rw [cell_o E I L R Z ht] at hat
  obtain ⟨r1, e1, cell, q1, q2, q3, q4⟩ := hat
  exact ⟨cell, q1, by rw [q3]; rfl, by rw [q2]; exact (hK.1 t _ (cl_at t ht)).2.1⟩
theorem roomM {M2 : Mt} {d mc ms : Nat} {Rm : Room} (h : M2.2.2.1 ≤ 21) (h1 : d + 1 ≤ Rm.frames) (h2 : 40 * (d + 1) ≤ Rm.locals) : (rmM d mc ms).frames + 1 ≤ Rm.frames ∧ 8 + (M2.2.2.1 + 11) + (rmM d mc ms).locals ≤ Rm.locals := ⟨h1, by show 8 + (M2.2.2.1 + 11) + 40 * d ≤ _; omega⟩
theorem aw_callV {idx t i : Nat} {as : List AV} (hd : Dc M pc (.invokevirtual idx) 3 pc2) (hlk : Cond.methodLink M.1.cls idx M2.1 ∈ G) (hf : MF M2 n) (hv : MV M2) (ht : t < 10 ∧ Rn t = M2.1.cls) (hn : as.length = n) (hw : (st.map wd).sum ≤ 8)
    (hm : AMet l E d M2 (vr t i :: as) I L R Z (fun r I1 L1 R1 Z1 => AWq l E (d + 1) M Z0 pc2 ls (rst r st) I1 L1 R1 Z1 Q)) : AWq l E (d + 1) M Z0 pc ls (as.reverse ++ vr t i :: st) I L R Z Q := by
  obtain ⟨hd, rfl⟩ := hd
  refine AWq.call hm (fun v h1 h2 => h1 v (List.mem_append_right _ (List.mem_cons_of_mem _ h2))) (fun p e Rm s m args below meth c F als H locs cells slots mc ms Qc hsz v1 hW hS hr hM => ?_)
  have hts := F.2.2.2.2.1
  have hvd : VD Z t i := vd_of (v1 _ (List.mem_append_right _ List.mem_cons_self)) (by omega)
  have cw : CallW Rm s args M.1.cls M2.1.cls idx M2.1 M2.2.1 M2.2.2.1 M2.2.2.2 (wsM M2) (rmM d mc ms) mc ms n :=
    ⟨callB_of n hts (goodM hf) rfl rfl rfl (hts _ hf.2.1) (hts _ hlk) hf.2.2.1 (roomM hf.2.2.2.1 F.2.2.2.2.2.2.2.2.2.1 F.2.2.2.2.2.2.2.2.2.2.1), hts _ hv.1, hts _ hv.2⟩
  refine va_runV (As := as.map (cv E)) (b := ad E t i) ⟨F.1, F.2.1, F.2.2.1, F.2.2.2.1, hts⟩ hM cw ⟨PcM.blind, by rw [← ht.2]; exact recv F.2.2.2.2.2.1.1 hW hvd ht.1, fun U hU hw => ⟨rfl, F.2.2.2.2.2.1.at F.2.2.2.2.2.2.2.2.2.2.2 hS hU hw, by rw [hU]; exact hW, ?_⟩⟩ rfl (by rw [List.length_map]; exact hn) hsz ?_ (lv_room (by rw [wd_sum]; exact hw)) hd hr
  · intro v hv
    rcases List.mem_cons.mp hv with e | hv
    · rw [e]; exact Or.inr hvd
    · exact v1 v (List.mem_append_left _ (List.mem_reverse.mpr hv))
  · show (as.reverse ++ vr t i :: st).map (cv E) = _
    rw [List.map_append, List.map_reverse, List.map_cons]
    rfl
theorem aw_callS {idx : Nat} {as : List AV} (hd : Dc M pc (.invokestatic idx) 3 pc2) (hlk : Cond.methodLink M.1.cls idx M2.1 ∈ G) (hf : MF M2 n) (hv : MS M2) (hn : as.length = n) (hw : (st.map wd).sum ≤ 8)
    (hm : AMet l E d M2 as I L R Z (fun r I1 L1 R1 Z1 => AWq l E (d + 1) M Z0 pc2 ls (rst r st) I1 L1 R1 Z1 Q)) : AWq l E (d + 1) M Z0 pc ls (as.reverse ++ st) I L R Z Q := by
  obtain ⟨hd, rfl⟩ := hd
  refine AWq.call hm (fun v h1 h2 => h1 v (List.mem_append_right _ h2)) (fun p e Rm s m args below meth c F als H locs cells slots mc ms Qc hsz v1 hW hS hr hM => ?_)
  have hts := F.2.2.2.2.1
  refine va_runS (As := as.map (cv E)) ⟨F.1, F.2.1, F.2.2.1, F.2.2.2.1, hts⟩ hM ⟨callB_of n hts (goodM hf) rfl rfl rfl (hts _ hf.2.1) (hts _ hlk) hf.2.2.1 (roomM hf.2.2.2.1 F.2.2.2.2.2.2.2.2.2.1 F.2.2.2.2.2.2.2.2.2.2.1), hts _ hv⟩ ⟨PcM.blind, fun U hU hw => ⟨rfl, F.2.2.2.2.2.1.at F.2.2.2.2.2.2.2.2.2.2.2 hS hU hw, by rw [hU]; exact hW, ?_⟩⟩ rfl (by rw [List.length_map]; exact hn) hsz ?_ (lv_room (by rw [wd_sum]; exact hw)) hd hr
  · intro v hv
    exact v1 v (List.mem_append_left _ (List.mem_reverse.mpr hv))
  · show (as.reverse ++ st).map (cv E) = _
    rw [List.map_append, List.map_reverse]
theorem aw_callSN {idx : Nat} {as : List AV} {host : String} (hd : Dc M pc (.invokestatic idx) 3 pc2) (hlk : Cond.methodLinkNest M.1.cls idx M2.1 host ∈ Gn) (hf : MF M2 n) (hv : MS M2) (hn : as.length = n) (hw : (st.map wd).sum ≤ 8)
    (hm : AMet l E d M2 as I L R Z (fun r I1 L1 R1 Z1 => AWq l E (d + 1) M Z0 pc2 ls (rst r st) I1 L1 R1 Z1 Q)) : AWq l E (d + 1) M Z0 pc ls (as.reverse ++ st) I L R Z Q := by
  obtain ⟨hd, rfl⟩ := hd
  refine AWq.call hm (fun v h1 h2 => h1 v (List.mem_append_right _ h2)) (fun p e Rm s m args below meth c F als H locs cells slots mc ms Qc hsz v1 hW hS hr hM => ?_)
  have hts := F.2.2.2.2.1
  refine va_runSN (As := as.map (cv E)) ⟨F.1, F.2.1, F.2.2.1, F.2.2.2.1, hts⟩ hM ⟨va_cnB n hts (goodM hf) rfl rfl rfl (F.2.2.2.2.2.1.2.1 _ hlk) (hts _ hf.2.1) hf.2.2.1 (roomM hf.2.2.2.1 F.2.2.2.2.2.2.2.2.2.1 F.2.2.2.2.2.2.2.2.2.2.1), hts _ hv, trivial⟩ ⟨PcM.blind, fun U hU hw => ⟨rfl, F.2.2.2.2.2.1.at F.2.2.2.2.2.2.2.2.2.2.2 hS hU hw, by rw [hU]; exact hW, ?_⟩⟩ rfl (by rw [List.length_map]; exact hn) hsz ?_ (lv_room (by rw [wd_sum]; exact hw)) hd hr
  · intro v hv
    exact v1 v (List.mem_append_left _ (List.mem_reverse.mpr hv))
  · show (as.reverse ++ st).map (cv E) = _
    rw [List.map_append, List.map_reverse]
theorem aw_callI {idx t i : Nat} {as : List AV} (hd : Dc M pc (.invokespecial idx) 3 pc2) (hlk : Cond.methodLink M.1.cls idx M2.1 ∈ G) (hf : MF M2 n) (hv : MI M2) (hn : as.length = n) (hw : (st.map wd).sum ≤ 8)
    (hm : AMet l E d M2 (vr t i :: as) I L R Z (fun r I1 L1 R1 Z1 => AWq l E (d + 1) M Z0 pc2 ls (rst r st) I1 L1 R1 Z1 Q)) : AWq l E (d + 1) M Z0 pc ls (as.reverse ++ vr t i :: st) I L R Z Q := by
  obtain ⟨hd, rfl⟩ := hd
  refine AWq.call hm (fun v h1 h2 => h1 v (List.mem_append_right _ (List.mem_cons_of_mem _ h2))) (fun p e Rm s m args below meth c F als H locs cells slots mc ms Qc hsz v1 hW hS hr hM => ?_)
  have hts := F.2.2.2.2.1
  have hfc := hf.1
  rw [hv.2.2] at hfc
  have cb : CallB Rm s args M.1.cls idx M2.1 M2.2.1 M2.2.2.1 none (wsM M2) (rmM d mc ms) mc ms n := by
    have := callB_of (bytes := M2.2.1) (maxL := M2.2.2.1) (ret := M2.2.2.2) (ws' := G) (own := M.1.cls) (index := idx) (y := M2.1) (ws := wsM M2) (rm := rmM d mc ms) (mc := mc) (ms := ms) n hts (goodM hf) rfl rfl rfl (hts _ hf.2.1) (hts _ hlk) hf.2.2.1 (roomM hf.2.2.2.1 F.2.2.2.2.2.2.2.2.2.1 F.2.2.2.2.2.2.2.2.2.2.1)
    rw [hv.2.2] at this
    exact this
  refine va_runI (As := as.map (cv E)) (b := ad E t i) ⟨F.1, F.2.1, F.2.2.1, F.2.2.2.1, hts⟩ hM ⟨cb, hv.2.1, hts _ hv.1⟩ ⟨PcM.blind, fun U hU hw => ⟨rfl, F.2.2.2.2.2.1.at F.2.2.2.2.2.2.2.2.2.2.2 hS hU hw, by rw [hU]; exact hW, ?_⟩⟩ rfl (by rw [List.length_map]; exact hn) hsz ?_ (lv_room (by rw [wd_sum]; exact hw)) hd hr
  · intro v hv
    rcases List.mem_cons.mp hv with e | hv
    · rw [e]; exact v1 _ (List.mem_append_right _ List.mem_cons_self)
    · exact v1 v (List.mem_append_left _ (List.mem_reverse.mpr hv))
  · show (as.reverse ++ vr t i :: st).map (cv E) = _
    rw [List.map_append, List.map_reverse, List.map_cons]
    rfl
theorem aw_callIN {idx t i : Nat} {as : List AV} {host : String} (hd : Dc M pc (.invokespecial idx) 3 pc2) (hlk : Cond.methodLinkNest M.1.cls idx M2.1 host ∈ Gn) (hf : MF M2 n) (hv : MI M2) (hn : as.length = n) (hw : (st.map wd).sum ≤ 8)
    (hm : AMet l E d M2 (vr t i :: as) I L R Z (fun r I1 L1 R1 Z1 => AWq l E (d + 1) M Z0 pc2 ls (rst r st) I1 L1 R1 Z1 Q)) : AWq l E (d + 1) M Z0 pc ls (as.reverse ++ vr t i :: st) I L R Z Q := by
  obtain ⟨hd, rfl⟩ := hd
  refine AWq.call hm (fun v h1 h2 => h1 v (List.mem_append_right _ (List.mem_cons_of_mem _ h2))) (fun p e Rm s m args below meth c F als H locs cells slots mc ms Qc hsz v1 hW hS hr hM => ?_)
  have hts := F.2.2.2.2.1
  have cb : va_CN Rm s args M.1.cls idx M2.1 host M2.2.1 M2.2.2.1 none (wsM M2) (rmM d mc ms) mc ms n := by
    have := va_cnB (bytes := M2.2.1) (maxL := M2.2.2.1) (ret := M2.2.2.2) (ws' := G) (own := M.1.cls) (index := idx) (y := M2.1) (ws := wsM M2) (rm := rmM d mc ms) (mc := mc) (ms := ms) n hts (goodM hf) rfl rfl rfl (F.2.2.2.2.2.1.2.1 _ hlk) (hts _ hf.2.1) hf.2.2.1 (roomM hf.2.2.2.1 F.2.2.2.2.2.2.2.2.2.1 F.2.2.2.2.2.2.2.2.2.2.1)
    rw [hv.2.2] at this
    exact this
  refine va_runIN (As := as.map (cv E)) (b := ad E t i) ⟨F.1, F.2.1, F.2.2.1, F.2.2.2.1, hts⟩ hM ⟨cb, hv.2.1, hts _ hv.1⟩ ⟨PcM.blind, fun U hU hw => ⟨rfl, F.2.2.2.2.2.1.at F.2.2.2.2.2.2.2.2.2.2.2 hS hU hw, by rw [hU]; exact hW, ?_⟩⟩ rfl (by rw [List.length_map]; exact hn) hsz ?_ (lv_room (by rw [wd_sum]; exact hw)) hd hr
  · intro v hv
    rcases List.mem_cons.mp hv with e | hv
    · rw [e]; exact v1 _ (List.mem_append_right _ List.mem_cons_self)
    · exact v1 v (List.mem_append_left _ (List.mem_reverse.mpr hv))
  · show (as.reverse ++ vr t i :: st).map (cv E) = _
    rw [List.map_append, List.map_reverse, List.map_cons]
    rfl
end CALLS
end
section
/-! ===== new cells ===== -/
theorem cellE_len {E : En} {I : It} {L : Lt} {R : Rt} {Z Z2 : Zt} {t i : Nat} (h : alen Z2 t i = alen Z t i) : cellE E I L R Z2 t i = cellE E I L R Z t i := by
  unfold cellE
  rw [h]
theorem Wo.grow {E : En} {I : It} {L : Lt} {R : Rt} {Z Z2 : Zt} {H H2 : Heap} {t i : Nat} (h : Wo E I L R Z H) (hw : who Z.2.1 = (t, i)) (hz2 : Z2.2.1 = Z.2.1 + 1) (hz : H2.size = H.size + 1) (ho : ∀ q, q < H.size → H2[q]? = H[q]?)
    (hc : va_at E.1 classes (E.2.2.1 + Z.2.1, cellE E I L R Z2 t i) H2) (ha : ∀ t2 i2, ¬ (t2 = t ∧ i2 = i) → alen Z2 t2 i2 = alen Z t2 i2) (hr : ∀ k, R t i k = none) : Wo E I L R Z2 H2 := by
  have hn : adr t i = Z.2.1 := by have := (adr_who Z.2.1).1; rwa [hw] at this
  refine ⟨by rw [hz, hz2, h.1]; omega, fun k hk => ?_, fun t2 i2 k q hq hv => ?_⟩
  · by_cases e : k = Z.2.1
    · subst e
      rw [hw]
      exact hc
    · have hk2 : k < Z.2.1 := by omega
      have hne : ¬ ((who k).1 = t ∧ (who k).2 = i) := fun q => e (by rw [← (adr_who k).1, q.1, q.2]; exact hn)
      rw [cellE_len (ha _ _ hne)]
      refine (h.2.1 k hk2).kept (ho _ ?_)
      show E.2.2.1 + k < H.size
      rw [h.1]
      omega
  · by_cases e : t2 = t ∧ i2 = i
    · obtain ⟨rfl, rfl⟩ := e
      rw [hr k] at hq
      cases hq
    · have hv2 : VD Z t2 i2 := by
        refine ⟨hv.1, ?_, hv.2.2⟩
        have h1 := hv.2.1
        by_cases e2 : adr t2 i2 = Z.2.1
        · exfalso
          have h3 := hv.2.2
          rw [e2, hw] at h3
          exact e ⟨(Prod.mk.inj h3).1.symm, (Prod.mk.inj h3).2.symm⟩
        · omega
      exact (h.2.2 t2 i2 k q hq hv2).mono (by omega)
theorem vd_new {Z Z2 : Zt} {t i : Nat} (hw : who Z.2.1 = (t, i)) (hz2 : Z2.2.1 = Z.2.1 + 1) : VD Z2 t i := by
  have hn := (adr_who Z.2.1)
  rw [hw] at hn
  have h5 : adr t i = Z.2.1 := hn.1
  exact ⟨hn.2, by omega, by rw [h5]; exact hw⟩
theorem ad_new {E : En} {Z : Zt} {t i : Nat} (hw : who Z.2.1 = (t, i)) : ad E t i = E.2.2.1 + Z.2.1 := by
  have hn := (adr_who Z.2.1)
  rw [hw] at hn
  unfold ad
  rw [if_pos hn.2, hn.1]
theorem va_S.push {A : Nat → Prop} {H0 H H1 : Heap} {locs : List Loc} (h : va_S A H0 H locs) (z : H.size ≤ H1.size) (oq : ∀ q : Nat, q < H.size → H1[q]? = H[q]?) : va_S A H0 H1 locs :=
  ⟨Nat.le_trans h.1 z, fun q h1 h2 => (oq q (Nat.lt_of_lt_of_le h1 h.1)).trans (h.2.1 q h1 h2), h.2.2⟩
section MAKE
variable {l : Launch} {E : En} {d : Nat} {M M2 : Mt} {Z0 : Zt} {pc pc2 tgt n : Nat} {ls : List (Option AV)} {st : List AV} {I : It} {L : Lt} {R : Rt} {Z : Zt} {Q : Qt}
theorem aw_new {idx : Nat} (t i : Nat) (hd : Dc M pc (.new idx) 3 pc2) (hcl : Cond.classLink M.1.cls idx (Rn t) ∈ G) (hin : Cond.instantiable (Rn t) (nf t) ∈ G) (hini : Cond.initialized (Rn t) ∈ G) (hw : who Z.2.1 = (t, i)) (hI : ∀ f, I t i f = 0) (hR : ∀ f, R t i f = none) (ht : t < 10)
    (k : AWq l E d M Z0 pc2 ls (vr t i :: st) I L R (Z.1, Z.2.1 + 1, Z.2.2 + nf t) Q) : AWq l E d M Z0 pc ls st I L R Z Q := by
  obtain ⟨hd, rfl⟩ := hd
  obtain ⟨r, I2, L2, R2, Z2, hq, hz, k⟩ := k
  have hz1 : Z.2.1 + 1 ≤ Z2.2.1 := hz.1
  have hz3 : Z.2.2 + nf t ≤ Z2.2.2 := hz.2
  refine ⟨r, I2, L2, R2, Z2, hq, ⟨by omega, by omega⟩, fun p e Rm s m args below meth c F h1 h2 h3 h4 als H locs hl v1 v2 hW hS => ?_⟩
  have hts := F.2.2.2.2.1
  have hK := F.2.2.2.2.2.1.1
  refine W.newc F.1 F.2.1 F.2.2.2.1 (hts _ hcl) (hts _ hin) (hts _ hini) rfl hd (by omega) (by omega) (fun cC kC g1 g2 g3 g4 => ?_)
  have e1 : Z.2.1 - Z0.2.1 + 1 = Z.2.1 + 1 - Z0.2.1 := by omega
  have e2 : Z.2.2 - Z0.2.2 + nf t = Z.2.2 + nf t - Z0.2.2 := by omega
  rw [e1, e2]
  have hKn := hK.1 t _ (cl_at t ht)
  have hcc : cC = E.1.1 t := Option.some.inj (g1.symm.trans hKn.2.1)
  subst hcc
  have hcell : (H.push { cls := E.1.1 t, slots := kC.instanceTypes.map defaultValue, vm := .none })[H.size]? = some (blank (E.1.1 t) kC) := by simp [blank]
  have hob := u_born (Ty t) hts (cl_in t ht) hKn g2 hcell (cl_ty t ht)
  have hW2 : Wo E I L R (Z.1, Z.2.1 + 1, Z.2.2 + nf t) (H.push { cls := E.1.1 t, slots := kC.instanceTypes.map defaultValue, vm := .none }) := by
    refine hW.grow (t := t) (i := i) hw rfl (by simp) (fun q hq => by rw [Array.getElem?_push, if_neg (Nat.ne_of_lt hq)]) ?_ (fun _ _ _ => rfl) hR
    rw [cell_o E I L R _ ht, ← hW.1]
    refine ⟨_, cl_at t ht, hob.to (fun j hj => ?_)⟩
    show defaultValue (Ty t j) = vp_V _ j
    rw [fV_V E I R t i hj, cl_df t ht j hj]
    unfold fV
    rw [hI, hR]
    rfl
  have e3 : Value.ref H.size = cv E (vr t i) := by
    show _ = Value.ref (ad E t i)
    rw [ad_new hw, hW.1]
  have h := k p e Rm s m args below meth c F h1 h2 (Nat.le_succ_of_le h3) (Nat.le_trans h4 (Nat.le_add_right _ _)) als _ locs hl (vc1 (Or.inr (vd_new hw rfl)) (fun v hv => (v1 v hv).mono (Nat.le_succ _))) (fun v hv => (v2 v hv).mono (Nat.le_succ _)) hW2 (hS.push (by simp) (fun q hq => by rw [Array.getElem?_push, if_neg (Nat.ne_of_lt hq)]))
  rw [List.map_cons, ← e3] at h
  exact h
/-- a new row of numbers -/
theorem aw_newa {x : Int32} {at0 : ArrayType} {len2 : Nat → Nat} (t i N : Nat) (hd : Dc M pc (.newarray at0) 2 pc2) (hac : Cond.arrayClass (newarray.typeOf at0) ∈ G) (hx : x = nI N) (hN : N ≤ 10000) (hw : who Z.2.1 = (t, i)) (hI : ∀ f, I t i f = 0) (hL : ∀ f, L t i f = 0) (hR : ∀ f, R t i f = none)
    (hlen : alen (len2, Z.2.1 + 1, Z.2.2 + N) t i = N) (ho : ∀ t2 i2, ¬ (t2 = t ∧ i2 = i) → alen (len2, Z.2.1 + 1, Z.2.2 + N) t2 i2 = alen Z t2 i2)
    (k : AWq l E d M Z0 pc2 ls (vr t i :: st) I L R (len2, Z.2.1 + 1, Z.2.2 + N) Q) (ht : 10 ≤ t ∧ t < 50 ∧ tc t < 3 ∧ tcT (tc t) = newarray.typeOf at0 := by exact ⟨by decide, by decide, by decide, rfl⟩) (hby : componentBytes (newarray.typeOf at0) ≤ 8 := by decide) : AWq l E d M Z0 pc ls (vi x :: st) I L R Z Q := by
  obtain ⟨hd, rfl⟩ := hd
  subst hx
  obtain ⟨r, I2, L2, R2, Z2, hq, hz, k⟩ := k
  have hz1 : Z.2.1 + 1 ≤ Z2.2.1 := hz.1
  have hz3 : Z.2.2 + N ≤ Z2.2.2 := hz.2
  refine ⟨r, I2, L2, R2, Z2, hq, ⟨by omega, by omega⟩, fun p e Rm s m args below meth c F h1 h2 h3 h4 als H locs hl v1 v2 hW hS => ?_⟩
  have hts := F.2.2.2.2.1
  have hK := F.2.2.2.2.2.1.1
  have hNb : N < 2147483648 := by omega
  refine va_newaK F.1 F.2.1 (hts _ hac) rfl hd rfl (nI_pos hNb) (nI_clamp hNb) (by
    have : N * componentBytes (newarray.typeOf at0) ≤ 10000 * 8 := Nat.mul_le_mul hN hby
    omega) (by omega) (by omega) rfl (fun H1 cA q1 q2 q3 q4 q5 => ?_)
  have e1 : Z.2.1 - Z0.2.1 + 1 = Z.2.1 + 1 - Z0.2.1 := by omega
  have e2 : Z.2.2 - Z0.2.2 + N = Z.2.2 + N - Z0.2.2 := by omega
  rw [e1, e2]
  obtain ⟨t1, t2, t3, t4⟩ := ht
  have hra := (hK.2 (tc t) _ (tys_at E (by omega))).2
  have hcA : cA = E.2.1 (tc t) := by
    have h5 : s.vm.findClass ("[" ++ (tcT (tc t)).toString) = some (E.2.1 (tc t)) := by
      have t5 : tc t = 0 ∨ tc t = 1 ∨ tc t = 2 := by omega
      rcases t5 with e | e | e <;> rw [e] at hra ⊢ <;> exact hra
    rw [t4] at h5
    exact Option.some.inj (q5.symm.trans h5)
  subst hcA
  have hW2 : Wo E I L R (len2, Z.2.1 + 1, Z.2.2 + N) H1 := by
    refine hW.grow (t := t) (i := i) hw rfl q2 q3 ?_ ho hR
    rw [← hW.1]
    by_cases e : tc t = 1
    · rw [cell_l E I L R _ t1 e, hlen]
      show H1[_]? = some (vp_cell _ _)
      rw [q1, vp_cell_l, ← t4, e]
      congr 2
      funext j
      rw [hL]
      rfl
    · rw [cell_i E I L R _ t1 t3 e, hlen]
      show H1[_]? = some (vp_cell _ _)
      rw [q1, vp_cell_i, ← t4]
      congr 2
      funext j
      rw [hI]
      have t5 : tc t = 0 ∨ tc t = 2 := by omega
      rcases t5 with e | e <;> rw [e] <;> rfl
  have e3 : Value.ref H.size = cv E (vr t i) := by
    show _ = Value.ref (ad E t i)
    rw [ad_new hw, hW.1]
  have h := k p e Rm s m args below meth c F h1 h2 (Nat.le_succ_of_le h3) (Nat.le_trans h4 (Nat.le_add_right _ _)) als _ locs hl (vc1 (Or.inr (vd_new hw rfl)) (fun v hv => (vt1 v1 v hv).mono (Nat.le_succ _))) (fun v hv => (v2 v hv).mono (Nat.le_succ _)) hW2 (hS.push (by rw [q2]; omega) q3)
  rw [List.map_cons, ← e3] at h
  exact h
/-- a new row of objects -/
theorem aw_anew {x : Int32} {idx : Nat} (t i N : Nat) {C : String} (hd : Dc M pc (.anewarray idx) 3 pc2) (hcl : Cond.classLink M.1.cls idx C ∈ G) (hao : ∀ (s : State), StF E s s.heap → va_AO C s) (hx : x = nI N) (hN : N ≤ 10000) (hw : who Z.2.1 = (t, i)) (hR : ∀ f, R t i f = none) (hlen : alen Z t i = N)
    (k : AWq l E d M Z0 pc2 ls (vr t i :: st) I L R (Z.1, Z.2.1 + 1, Z.2.2 + N) Q) (ht : 10 ≤ t ∧ t < 50 ∧ 3 ≤ tc t ∧ tc t < 8 ∧ tcT (tc t) = .object C := by exact ⟨by decide, by decide, by decide, by decide, rfl⟩) : AWq l E d M Z0 pc ls (vi x :: st) I L R Z Q := by
  obtain ⟨hd, rfl⟩ := hd
  subst hx
  obtain ⟨r, I2, L2, R2, Z2, hq, hz, k⟩ := k
  have hz1 : Z.2.1 + 1 ≤ Z2.2.1 := hz.1
  have hz3 : Z.2.2 + N ≤ Z2.2.2 := hz.2
  refine ⟨r, I2, L2, R2, Z2, hq, ⟨by omega, by omega⟩, fun p e Rm s m args below meth c F h1 h2 h3 h4 als H locs hl v1 v2 hW hS => ?_⟩
  have hts := F.2.2.2.2.1
  have hK := F.2.2.2.2.2.1.1
  have hNb : N < 2147483648 := by omega
  have hnn : (nI N).toNatClampNeg = N := nI_clamp hNb
  refine W.anew F.1 F.2.1 F.2.2.2.1 (hts _ hcl) (hao s F.2.2.2.2.2.1).use rfl hd rfl (nI_pos hNb) (by rw [hnn]; omega) (by omega) (by rw [hnn]; omega) (fun cA kA comp q1 q2 q3 q4 => ?_)
  rw [hnn]
  have e1 : Z.2.1 - Z0.2.1 + 1 = Z.2.1 + 1 - Z0.2.1 := by omega
  have e2 : Z.2.2 - Z0.2.2 + N = Z.2.2 + N - Z0.2.2 := by omega
  rw [e1, e2]
  obtain ⟨t1, t2, t3, t4, t5⟩ := ht
  have hra := (hK.2 (tc t) _ (tys_at E t4)).2
  rw [t5] at hra
  obtain ⟨kA', comp', r1, r2, r3, r4⟩ := hra
  have hcA : cA = E.2.1 (tc t) := Option.some.inj (q1.symm.trans r4)
  subst hcA
  have hH : ∀ q, q < H.size → (H.push { cls := E.2.1 (tc t), slots := Array.replicate N .null, vm := .none })[q]? = H[q]? := fun q hq => by rw [Array.getElem?_push, if_neg (Nat.ne_of_lt hq)]
  have hW2 : Wo E I L R (Z.1, Z.2.1 + 1, Z.2.2 + N) (H.push { cls := E.2.1 (tc t), slots := Array.replicate N .null, vm := .none }) := by
    refine hW.grow (t := t) (i := i) hw rfl (by simp) hH ?_ (fun _ _ _ => rfl) hR
    rw [← hW.1, cell_r E I L R _ t1 t3]
    have hlen2 : alen (Z.1, Z.2.1 + 1, Z.2.2 + N) t i = N := hlen
    rw [hlen2]
    show (H.push _)[H.size]? = some (vp_cell _ _)
    rw [vp_cell_q, Array.getElem?_push, if_pos rfl, arrV_new]
    congr 2
    funext j
    rw [hR]
    rfl
  have e3 : Value.ref H.size = cv E (vr t i) := by
    show _ = Value.ref (ad E t i)
    rw [ad_new hw, hW.1]
  have h := k p e Rm s m args below meth c F h1 h2 (Nat.le_succ_of_le h3) (Nat.le_trans h4 (Nat.le_add_right _ _)) als _ locs hl (vc1 (Or.inr (vd_new hw rfl)) (fun v hv => (vt1 v1 v hv).mono (Nat.le_succ _))) (fun v hv => (v2 v hv).mono (Nat.le_succ _)) hW2 (hS.push (by simp) hH)
  rw [List.map_cons, ← e3] at h
  exact h
theorem aw_objInit {idx t i : Nat} (hd : Dc M pc (.invokespecial idx) 3 pc2) (hlk : Cond.methodLink M.1.cls idx Lib.objectInit ∈ G) (hi : Cond.instanceMethod Lib.objectInit ∈ G) (hc : Cond.code Lib.objectInit ⟨#[0xb1]⟩ 1 none ∈ G) (hw : (st.map wd).sum ≤ 8) (k : AWq l E (d + 1) M Z0 pc2 ls st I L R Z Q) : AWq l E (d + 1) M Z0 pc ls (vr t i :: st) I L R Z Q := by
  obtain ⟨hd, rfl⟩ := hd
  refine k.lift (fun v1 v2 => ⟨vt1 v1, v2⟩) (fun p e Rm s m args below meth c cells slots Qs F als H locs hl v1 hW hS kk => ?_)
  have hts := F.2.2.2.2.1
  have f1 := F.2.2.2.2.2.2.2.2.2.1
  have f2 := F.2.2.2.2.2.2.2.2.2.2.1
  refine W.objInit F.1 F.2.1 F.2.2.2.1 (hts _ hlk) (hts _ hi) (hts _ hc) rfl (by show als.size = _; rw [F.2.2.1]; exact hl.1.1) rfl hd (by omega) ?_ (kk als hl)
  have := lv_room (m := m) (pc := pc) (ls := als) (rest := []) (st := st.map (cv E)) (by rw [wd_sum]; exact hw)
  have e0 : (F0 m pc als ((vr t i :: st).map (cv E))).monitorRoom = (F0 m pc als []).monitorRoom := rfl
  rw [e0]
  omega
end MAKE
end
section
/-! ===== a row of 24 rows of 25 longs, made by one instruction: the heap behind it in closed form ===== -/
/-- the row of rows whose first i places are settled: the rows stand right behind it -/
def gdO (cA : ClassId) (b i : Nat) : Cell := arrV cA 24 (fun j => va_rf (if j < i then some (b + 1 + j) else none))
/-- a row of longs, new -/
def gdR (cm : ClassId) : Cell := arrV cm 25 (fun _ => .long 0)
def gdH (cA cm : ClassId) (H : Heap) (i : Nat) : Heap := H.push (gdO cA H.size i) ++ Array.replicate i (gdR cm)
def gdS (cA cm : ClassId) (T : State) (i : Nat) : State := { T with heap := gdH cA cm T.heap i, slotsUsed := T.slotsUsed + 24 + 25 * i }
theorem gdH_size (cA cm : ClassId) (H : Heap) (i : Nat) : (gdH cA cm H i).size = H.size + 1 + i := by
  simp [gdH]
theorem gdH_at (cA cm : ClassId) (H : Heap) (i q : Nat) : (gdH cA cm H i)[q]? = if q < H.size then H[q]? else if q = H.size then some (gdO cA H.size i) else if q < H.size + 1 + i then some (gdR cm) else none := by
  unfold gdH
  rw [Array.getElem?_append, Array.getElem?_push, Array.getElem?_replicate, Array.size_push]
  by_cases h1 : q < H.size
  · rw [if_pos (by omega), if_neg (by omega), if_pos h1]
  · by_cases h2 : q = H.size
    · rw [if_pos (by omega), if_pos h2, if_neg h1, if_pos h2]
    · rw [if_neg (by omega), if_neg h1, if_neg h2]
      by_cases h3 : q < H.size + 1 + i
      · rw [if_pos h3, if_pos (by omega)]
      · rw [if_neg h3, if_neg (by omega)]
theorem gdH_old {cA cm : ClassId} {H : Heap} {i q : Nat} (h : q < H.size) : (gdH cA cm H i)[q]? = H[q]? := by
  rw [gdH_at, if_pos h]
theorem gdH_mid (cA cm : ClassId) (H : Heap) (i : Nat) : (gdH cA cm H i)[H.size]? = some (gdO cA H.size i) := by
  rw [gdH_at, if_neg (Nat.lt_irrefl _), if_pos rfl]
theorem gdH_row {cA cm : ClassId} {H : Heap} {i j : Nat} (h : j < i) : (gdH cA cm H i)[H.size + 1 + j]? = some (gdR cm) := by
  rw [gdH_at, if_neg (by omega), if_neg (by omega), if_pos (by omega)]
theorem gdO_next (cA : ClassId) (b i : Nat) : (gdO cA b i).setSlot i (.ref (b + 1 + i)) = gdO cA b (i + 1) := by
  unfold gdO
  rw [arrV_store]
  refine congrArg (arrV cA 24) (funext fun j => ?_)
  unfold updV
  by_cases e : j = i
  · rw [if_pos e, if_pos (by omega), e]
    rfl
  · rw [if_neg e]
    show va_rf (if j < i then _ else _) = _
    by_cases h : j < i
    · rw [if_pos h, if_pos (by omega)]
    · rw [if_neg h, if_neg (by omega)]
theorem gdH_next (cA cm : ClassId) (H : Heap) (i : Nat) : ((gdH cA cm H i).push (gdR cm)).setIfInBounds H.size (gdO cA H.size (i + 1)) = gdH cA cm H (i + 1) := by
  refine Array.ext_getElem? fun q => ?_
  rw [Array.getElem?_setIfInBounds, Array.getElem?_push, Array.size_push, gdH_size, gdH_at, gdH_at]
  by_cases h1 : H.size = q
  · rw [if_pos h1, if_pos (by omega), if_neg (by omega), if_pos h1.symm]
  · rw [if_neg h1]
    by_cases h2 : q < H.size
    · rw [if_neg (by omega), if_pos h2, if_pos h2]
    · rw [if_neg h2, if_neg (Ne.symm h1), if_neg h2, if_neg (Ne.symm h1)]
      by_cases h3 : q = H.size + 1 + i
      · rw [if_pos h3, if_pos (by omega)]
      · rw [if_neg h3]
        by_cases h4 : q < H.size + 1 + i
        · rw [if_pos h4, if_pos (by omega)]
        · rw [if_neg h4, if_neg (by omega)]
theorem gdS_zero (cA cm : ClassId) (T : State) : T.pushCell (gdO cA T.heap.size 0) = gdS cA cm T 0 := by
  have e1 : (gdO cA T.heap.size 0).slots.size = 24 := arrV_size _ _ _
  have e2 : gdH cA cm T.heap 0 = T.heap.push (gdO cA T.heap.size 0) := by simp [gdH]
  unfold State.pushCell gdS
  rw [e1, e2]
theorem gdS_next (cA cm : ClassId) (T : State) (i : Nat) : ((gdS cA cm T i).pushCell (gdR cm)).setCell T.heap.size (gdO cA T.heap.size (i + 1)) = gdS cA cm T (i + 1) := by
  have e1 : (gdR cm).slots.size = 25 := arrV_size _ _ _
  have e2 : T.slotsUsed + 24 + 25 * i + 25 = T.slotsUsed + 24 + 25 * (i + 1) := by omega
  unfold State.setCell State.pushCell gdS
  show ({ T with heap := ((gdH cA cm T.heap i).push (gdR cm)).setIfInBounds T.heap.size (gdO cA T.heap.size (i + 1)), slotsUsed := T.slotsUsed + 24 + 25 * i + (gdR cm).slots.size } : State) = _
  rw [gdH_next, e1, e2]
section GRID
variable {p : Program} {l : Launch} {e : Env} {R : Room} {s : State} {m : MethodId} {args : Array Value} {below : List Frame} {meth : Method} {c : Code} {T : State} {locs : List Loc} {cells slots : Nat}
/-- the method stands behind the first i rows as it stood before -/
theorem gd_stand (X : Stand p l e R s m args below meth c T locs cells slots) (cA cm : ClassId) (i : Nat) : Stand p l e R s m args below meth c (gdS cA cm T i) locs (cells + 1 + i) (slots + 24 + 25 * i) := by
  induction i with
  | zero =>
    have h := X.pushed (gdO cA T.heap.size 0)
    rw [gdS_zero cA cm, show (gdO cA T.heap.size 0).slots.size = 24 from arrV_size _ _ _] at h
    exact h
  | succ i ih =>
    have h := ih.pushed (gdR cm)
    have hc : ((gdS cA cm T i).pushCell (gdR cm)).heap[T.heap.size]? = some (gdO cA T.heap.size i) := by
      show ((gdH cA cm T.heap i).push (gdR cm))[T.heap.size]? = _
      rw [Array.getElem?_push, gdH_size, if_neg (by omega), gdH_mid]
    have h2 := h.stored hc i (.ref (T.heap.size + 1 + i))
    rw [gdO_next, gdS_next, show (gdR cm).slots.size = 25 from arrV_size _ _ _] at h2
    have h3 := h2.dropFresh (fun x hx => by
      rw [List.mem_singleton.mp hx]
      exact X.heapGrown)
    exact h3
end GRID
section GRIDW
variable {P : CtlPost} {e : Env} {d : Bool} {acts : List Action} {T : State}
/-- one row of 25 longs -/
theorem gd_row {cm cc : ClassId} {kC : Class} (h1 : T.vm.classes[cm]? = some kC) (h2 : kC.kind = .array cc .long) (hl : e.platform.arrayLengthLimit = 2147483645) (hb : e.platform.maxHeapBytes = 536870912) (h3 : T.heap.size < e.platform.maxCells) (h4 : T.slotsUsed + 25 ≤ e.platform.maxSlots) {Q : Addr → Pre} (k : ∀ acts', Q T.heap.size d acts' (T.pushCell (gdR cm))) : wp (multianewarray.make cm [nI 25]) Q P e d acts T := by
  have n25 : (nI 25).toNatClampNeg = 25 := nI_clamp (by decide)
  have p25 : ¬ nI 25 < 0 := nI_pos (by decide)
  unfold multianewarray.make
  simp only [wp_bind', W.ite, p25, if_false, wp_pure', W.theClass, h1, h2, Option.some.injEq, exists_eq_left', n25]
  refine W.newArray_of h1 h2 (by rw [hl]; decide) (by rw [hb]; decide) h3 h4 rfl fun acts' => ?_
  have := k acts'
  rw [show gdR cm = ({ cls := cm, slots := Array.replicate 25 (.long 0), vm := .none } : Cell) from (arrV_new cm 25 (.long 0)).symm] at this
  exact this
/-- the row of rows and its rows -/
theorem gd_make {cA cm cc : ClassId} {kA kC : Class} (a1 : T.vm.classes[cA]? = some kA) (a2 : kA.kind = .array cm (.array .long)) (h1 : T.vm.classes[cm]? = some kC) (h2 : kC.kind = .array cc .long) (hl : e.platform.arrayLengthLimit = 2147483645) (hb : e.platform.maxHeapBytes = 536870912) (h3 : T.heap.size + 25 ≤ e.platform.maxCells) (h4 : T.slotsUsed + 624 ≤ e.platform.maxSlots) {Q : Addr → Pre} (k : ∀ d' acts', Q T.heap.size d' acts' (gdS cA cm T 24)) : wp (multianewarray.make cA [nI 24, nI 25]) Q P e d acts T := by
  have n24 : (nI 24).toNatClampNeg = 24 := nI_clamp (by decide)
  have p24 : ¬ nI 24 < 0 := nI_pos (by decide)
  have z24 : (nI 24 == 0) = false := by decide
  unfold multianewarray.make
  simp only [wp_bind', W.ite, p24, if_false, wp_pure', W.theClass, a1, a2, Option.some.injEq, exists_eq_left', n24, z24]
  refine W.newArray_of a1 a2 (by rw [hl]; decide) (by rw [hb]; decide) (by omega) (by omega) rfl fun acts' => ?_
  have e0 : T.pushCell ({ cls := cA, slots := Array.replicate 24 .null } : Cell) = gdS cA cm T 0 := by
    rw [← gdS_zero cA cm]
    refine congrArg T.pushCell ?_
    rw [show ({ cls := cA, slots := Array.replicate 24 .null } : Cell) = arrV cA 24 (fun _ => .null) from arrV_new cA 24 .null]
    rfl
  rw [e0, if_neg (by decide), Std.Legacy.Range.forIn_eq_forIn_range', wp_bind']
  show wp (forIn (List.range' 0 24 1) PUnit.unit _) _ P e d acts' _
  refine wp_forIn_inv (fun todo U => todo.length ≤ 24 ∧ todo = List.range' (24 - todo.length) todo.length ∧ U = gdS cA cm T (24 - todo.length)) _ _ ⟨by decide, by decide, rfl⟩ ?_ ?_
  · intro x todo U d2 acts2 Q2 ⟨g1, g2, g3⟩ next
    have g1 : todo.length + 1 ≤ 24 := g1
    have g2 : x :: todo = List.range' (24 - (todo.length + 1)) (todo.length + 1) := g2
    have g3 : U = gdS cA cm T (24 - (todo.length + 1)) := g3
    rw [List.range'_succ] at g2
    obtain ⟨g4, g5⟩ := List.cons.inj g2
    rw [show 24 - (todo.length + 1) + 1 = 24 - todo.length by omega] at g5
    rw [← g4] at g3
    have gx : x < 24 := by omega
    have gy : 24 - todo.length = x + 1 := by omega
    subst g3
    rw [wp_bind']
    refine gd_row (T := gdS cA cm T x) h1 h2 hl hb ?_ ?_ fun acts3 => ?_
    · show (gdH cA cm T.heap x).size < _
      rw [gdH_size]
      omega
    · show T.slotsUsed + 24 + 25 * x + 25 ≤ _
      omega
    simp only [wp_bind', W.writeLoc, wp_pure']
    refine ⟨gdO cA T.heap.size x, ?_, (fun q => by cases q), (by rw [show (gdO cA T.heap.size x).slots.size = 24 from arrV_size _ _ _]; exact gx), ?_, next _ _ _ ⟨by omega, g5, ?_⟩⟩
    · show ((gdH cA cm T.heap x).push (gdR cm))[T.heap.size]? = _
      rw [Array.getElem?_push, gdH_size, if_neg (by omega), gdH_mid]
    · have a3 : (gdS cA cm T x).vm.classes[cA]? = some kA := a1
      show State.fitsSlot _ cA .none x _ = true
      simp [State.fitsSlot, State.slotType?, a3, a2, fits]
    · rw [gy, ← gdS_next, ← gdO_next]
      show (State.setCell _ _ (Cell.setSlot _ x (.ref (gdH cA cm T.heap x).size))) = _
      rw [gdH_size]
  · intro U d2 acts2 ⟨_, _, g3⟩
    have g3 : U = gdS cA cm T 24 := g3
    subst g3
    rw [wp_pure']
    exact k d2 acts2
end GRIDW
section GRIDS
variable {p : Program} {l : Launch} {e : Env} {R : Room} {s : State} {m : MethodId} {args : Array Value} {below : List Frame} {meth : Method} {c : Code} {T : State} {locs : List Loc} {cells slots : Nat}
theorem gdS_top (cA cm : ClassId) (T : State) (g : JFrame) (i : Nat) : gdS cA cm (T.setTop g) i = (gdS cA cm T i).setTop g := rfl
/-- the instruction's step -/
theorem gd_step (X : Stand p l e R s m args below meth c T locs cells slots) (hexec : p.tables.exec = Jvm.exec) {own : String} {index : Nat} (hown : s.vm.findClass own = some m.cls) (hlink : (Cond.classLink own index "[[J").before args s = true) (hover : va_AOA .long s) (harr : (Cond.arrayClass .long).before args s = true)
    {g : JFrame} (hg : g.method = m) (hd : decode c.code g.pc = .ok (.multianewarray index 2, 4)) {rest : List Value} (hst : g.stack = .int (nI 25) :: .int (nI 24) :: rest) (hc : cells + 25 ≤ R.cells) (hs : slots + 624 ≤ R.slots) :
    ∃ (vm₁ : Vm) (cA cm : ClassId), s.vm.findClass "[[J" = some cA ∧ s.vm.findClass "[J" = some cm ∧ Stand p l e R s m args below meth c (gdS cA cm (T.setVm vm₁) 24) locs (cells + 25) (slots + 624) ∧
      ∀ t, Steps p.tables e below ((gdS cA cm (T.setVm vm₁) 24).setTop { g with pc := g.pc + 4, stack := .ref T.heap.size :: rest }) t → Steps p.tables e below (T.setTop g) t := by
  subst hg
  obtain ⟨cm, cA, kA, o1, -, o2, o3, o4⟩ := arrayOverA_spec (va_AOA.use (A := args) hover)
  obtain ⟨cm2, kC, cc, q1, q2, q3⟩ := Cond.arrayClass_spec harr
  obtain rfl : cm2 = cm := Option.some.inj (q1.symm.trans o1)
  obtain ⟨c2, w1, w2⟩ := Cond.classLink_spec hown hlink e.platform (by rw [X.admits.platform])
  obtain rfl : c2 = cA := Option.some.inj (w1.symm.trans o4)
  obtain ⟨v1, v2, v3⟩ := State.classEntry (e := e) X.warmed w2
  generalize T.vm.noted g.method.cls index (.cls c2) = vm₁ at v1 v2 v3
  have XS := gd_stand (X.noted v2) c2 cm2 24
  obtain ⟨kA1, y1, y2⟩ := v2.alike.2.2 _ _ o2
  obtain ⟨kC1, y3, y4⟩ := v2.alike.2.2 _ _ q2
  obtain ⟨r1, r2⟩ := X.roomAbove hc hs
  refine ⟨vm₁, c2, cm2, o4, o1, XS, fun t ht => ?_⟩
  jvm_step X.here [hexec, hd]
  unfold multianewarray.sem
  rw [wp_bind', W.resolveClassAt_links (State.method?_setTop g X.here.top) v1, wp_bind', W.popN, if_neg (by decide)]
  refine ⟨g, State.topJava?_setTop' (s := T.setVm vm₁) g X.here.top, [.int (nI 24), .int (nI 25)], rest, rfl, hst, ?_⟩
  simp only [List.mapM_cons, List.mapM_nil, wp_bind', wp_pure']
  have ez : ((T.setTop g).setVm vm₁).setTop { g with stack := rest } = (T.setVm vm₁).setTop { g with stack := rest } := State.setTop_setTop (s := T.setVm vm₁) ..
  rw [ez]
  refine gd_make (T := (T.setVm vm₁).setTop { g with stack := rest }) (kA := kA1) (kC := kC1) (cm := cm2) (cc := cc) y1 (by rw [y2]; exact o3) y3 (by rw [y4]; exact q3) (Launch.admits_arrayLengthLimit X.admits) (Launch.admits_maxHeapBytes X.admits) r1 r2 fun d2 acts2 => ?_
  rw [gdS_top]
  simp only [wp_bind', W.mark, W.pushRef, State.topJava?_setTop' _ XS.here.top, Option.some.injEq, exists_eq_left', State.setTop_setTop]
  intro acts3
  simp [jvm, XS.here.top]
  exact ht
end GRIDS
end
section
section MAKE2
variable {l : Launch} {E : En} {d : Nat} {M M2 : Mt} {Z0 : Zt} {pc pc2 tgt n : Nat} {ls : List (Option AV)} {st : List AV} {I : It} {L : Lt} {R : Rt} {Z : Zt} {Q : Qt}
/-- the outer row and its 24 rows -/
def mR (R : Rt) (a : Nat) : Rt := fun t i k => if t = 16 ∧ i = a then (if k < 24 then some (17, 24 * a + k) else none) else R t i k
theorem aw_mna {idx : Nat} (a : Nat) (hd : Dc M pc (.multianewarray idx 2) 4 pc2) (hcl : Cond.classLink M.1.cls idx "[[J" ∈ G) (hac : Cond.arrayClass .long ∈ G) (hw : who Z.2.1 = (16, a)) (hw2 : ∀ j, j < 24 → who (Z.2.1 + 1 + j) = (17, 24 * a + j)) (hL : ∀ j, j < 24 → ∀ k, L 17 (24 * a + j) k = 0) (hR : ∀ j k, R 17 j k = none)
    (k : AWq l E d M Z0 pc2 ls (vr 16 a :: st) I L (mR R a) (Z.1, Z.2.1 + 25, Z.2.2 + 624) Q) : AWq l E d M Z0 pc ls (vi (nI 25) :: vi (nI 24) :: st) I L R Z Q := by
  obtain ⟨hd, rfl⟩ := hd
  obtain ⟨r, I2, L2, R2, Z2, hq, hz, k⟩ := k
  have hz1 : Z.2.1 + 25 ≤ Z2.2.1 := hz.1
  have hz3 : Z.2.2 + 624 ≤ Z2.2.2 := hz.2
  refine ⟨r, I2, L2, R2, Z2, hq, ⟨by omega, by omega⟩, fun p e Rm s m args below meth c F h1 h2' h3 h4 als H locs hl v1 v2 hW hS => ?_⟩
  have h2 := hW
  have hts := F.2.2.2.2.1
  have hK := F.2.2.2.2.2.1.1
  intro T hT Xs
  obtain ⟨vm₁, cA, comp, fA, fC, X', step⟩ := gd_step Xs F.1 F.2.2.2.1 (hts _ hcl) F.2.2.2.2.2.1.2.2.1.2.2.2.2.1 (hts _ hac) (g := F0 m pc als ((vi (nI 25) :: vi (nI 24) :: st).map (cv E))) rfl (by rw [F.2.1]; exact hd) rfl (by omega) (by omega)
  have hra := (hK.2 7 _ (tys_at E (by decide))).2
  have hcA : cA = E.2.1 7 := Option.some.inj (fA.symm.trans hra)
  have hrb := (hK.2 1 _ (tys_at E (by decide))).2
  have hcm : comp = E.2.1 1 := Option.some.inj (fC.symm.trans hrb)
  subst hcA
  subst hcm
  generalize hF : gdS (E.2.1 7) (E.2.1 1) (T.setVm vm₁) 24 = F1 at X' step
  have hFh : F1.heap = gdH (E.2.1 7) (E.2.1 1) H 24 := by
    rw [← hF, ← hT]
    rfl
  have hold : ∀ x : Nat, x < H.size → F1.heap[x]? = H[x]? := fun x hx => by
    rw [hFh]
    exact gdH_old hx
  have hrow : ∀ j : Nat, j < 24 → F1.heap[H.size + 1 + j]? = some (arrV (E.2.1 1) 25 (fun _ => .long 0)) := fun j hj => by
    rw [hFh]
    exact gdH_row hj
  have f2 : F1.heap[H.size]? = some (arrV (E.2.1 7) 24 (fun j => va_rf (if j < 24 then some (H.size + 1 + j) else none))) := by
    rw [hFh]
    exact gdH_mid _ _ _ _
  have hsz : F1.heap.size = H.size + 25 := by rw [hFh, gdH_size]
  have ea : ∀ j, j < 24 → ad E 17 (24 * a + j) = H.size + 1 + j := fun j hj => by
    have h5 := (adr_who (Z.2.1 + 1 + j)).1
    rw [hw2 j hj] at h5
    show (if 17 < 50 then E.2.2.1 + adr 17 (24 * a + j) else _) = _
    rw [if_pos (by decide), hW.1]
    have h6 : adr 17 (24 * a + j) = Z.2.1 + 1 + j := h5
    omega
  have hmR : ∀ t i, ¬ (t = 16 ∧ i = a) → mR R a t i = R t i := fun t i hne => by
    funext j
    unfold mR
    rw [if_neg hne]
  have hmRa : ∀ j, mR R a 16 a j = if j < 24 then some (17, 24 * a + j) else none := fun j => by
    unfold mR
    rw [if_pos ⟨rfl, rfl⟩]
  have hvd17 : ∀ j, j < 24 → VD (Z.1, Z.2.1 + 25, Z.2.2 + 624) 17 (24 * a + j) := fun j hj => by
    have h5 := (adr_who (Z.2.1 + 1 + j)).1
    rw [hw2 j hj] at h5
    have h6 : adr 17 (24 * a + j) = Z.2.1 + 1 + j := h5
    refine ⟨by decide, ?_, by rw [h6]; exact hw2 j hj⟩
    show adr 17 (24 * a + j) < Z.2.1 + 25
    omega
  have hW2 : Wo E I L (mR R a) (Z.1, Z.2.1 + 25, Z.2.2 + 624) F1.heap := by
    refine ⟨by rw [hsz, hW.1]; show _ = E.2.2.1 + (Z.2.1 + 25); omega, fun k9 hk9 => ?_, fun t i k9 q hq hv => ?_⟩
    · have hk9 : k9 < Z.2.1 + 25 := hk9
      by_cases e0 : k9 < Z.2.1
      · have hne : ¬ ((who k9).1 = 16 ∧ (who k9).2 = a) := fun q => by
          have h5 := (adr_who k9).1
          have h6 := (adr_who Z.2.1).1
          rw [q.1, q.2] at h5
          rw [hw] at h6
          have h6 : adr 16 a = Z.2.1 := h6
          omega
        have e4 : cellE E I L (mR R a) (Z.1, Z.2.1 + 25, Z.2.2 + 624) (who k9).1 (who k9).2 = cellE E I L R Z (who k9).1 (who k9).2 := by
          have e6 : cellE E I L (mR R a) (Z.1, Z.2.1 + 25, Z.2.2 + 624) (who k9).1 (who k9).2 = cellE E I L (mR R a) Z (who k9).1 (who k9).2 := cellE_len rfl
          rw [e6]
          have e5 : fV E I (mR R a) (who k9).1 (who k9).2 = fV E I R (who k9).1 (who k9).2 := by
            funext j
            unfold fV
            rw [hmR _ _ hne]
          unfold cellE
          rw [hmR _ _ hne, e5]
        rw [e4]
        exact (h2.2.1 k9 e0).kept (hold _ (by show E.2.2.1 + k9 < _; rw [hW.1]; omega))
      · by_cases e1 : k9 = Z.2.1
        · subst e1
          rw [hw]
          show va_at E.1 classes (_, cellE E I L (mR R a) _ 16 a) _
          rw [cell_r E I L _ _ (by decide) (by decide)]
          show F1.heap[_]? = some (vp_cell _ _)
          rw [vp_cell_q, ← hW.1, f2]
          congr 2
          funext j
          show _ = va_rf (cR E (mR R a 16 a j))
          rw [hmRa]
          by_cases e2 : j < 24
          · rw [if_pos e2, if_pos e2]
            show _ = va_rf (some (ad E 17 (24 * a + j)))
            rw [ea j e2]
          · rw [if_neg e2, if_neg e2]
            rfl
        · obtain ⟨j, rfl⟩ : ∃ j, k9 = Z.2.1 + 1 + j := ⟨k9 - Z.2.1 - 1, by omega⟩
          have hj : j < 24 := by omega
          rw [hw2 j hj]
          show va_at E.1 classes (_, cellE E I L (mR R a) _ 17 (24 * a + j)) _
          rw [cell_l E I L _ _ (by decide) rfl]
          show F1.heap[_]? = some (vp_cell _ _)
          rw [vp_cell_l, show E.2.2.1 + (Z.2.1 + 1 + j) = H.size + 1 + j by rw [hW.1]; omega, hrow j hj]
          congr 2
          funext q
          rw [hL j hj]
    · by_cases e0 : t = 16 ∧ i = a
      · obtain ⟨rfl, rfl⟩ := e0
        rw [hmRa] at hq
        by_cases e2 : k9 < 24
        · rw [if_pos e2] at hq
          cases hq
          exact Or.inr (hvd17 k9 e2)
        · rw [if_neg e2] at hq
          cases hq
      · rw [hmR _ _ e0] at hq
        by_cases e1 : adr t i < Z.2.1
        · exact (hW.2.2 t i k9 q hq ⟨hv.1, e1, hv.2.2⟩).mono (Nat.le_add_right _ _)
        · have e3 : adr t i < Z.2.1 + 25 := hv.2.1
          by_cases e2 : adr t i = Z.2.1
          · have := hv.2.2
            rw [e2, hw] at this
            exact absurd ⟨(Prod.mk.inj this).1.symm, (Prod.mk.inj this).2.symm⟩ e0
          · obtain ⟨j, e5⟩ : ∃ j, adr t i = Z.2.1 + 1 + j := ⟨adr t i - Z.2.1 - 1, by omega⟩
            have := hv.2.2
            rw [e5, hw2 j (by omega)] at this
            obtain ⟨rfl, rfl⟩ := Prod.mk.inj this
            rw [hR] at hq
            cases hq
  have e3 : Value.ref H.size = cv E (vr 16 a) := by
    show _ = Value.ref (ad E 16 a)
    rw [ad_new hw, hW.1]
  have hvd16 : VD (Z.1, Z.2.1 + 25, Z.2.2 + 624) 16 a := (vd_new (Z2 := (Z.1, Z.2.1 + 1, Z.2.2)) hw rfl).mono (by show Z.2.1 + 1 ≤ Z.2.1 + 25; omega)
  have hk := k p e Rm s m args below meth c F h1 h2' (Nat.le_trans h3 (Nat.le_add_right _ _)) (Nat.le_trans h4 (Nat.le_add_right _ _)) als F1.heap locs hl (vc1 (Or.inr hvd16) (fun v hv => (vt1 (vt1 v1) v hv).mono (Nat.le_add_right _ _))) (fun v hv => (v2 v hv).mono (Nat.le_add_right _ _)) hW2 (hS.push (by rw [hsz]; omega) hold)
  rw [List.map_cons, ← e3] at hk
  have e6 : Z.2.1 - Z0.2.1 + 25 = Z.2.1 + 25 - Z0.2.1 := by omega
  have e7 : Z.2.2 - Z0.2.2 + 624 = Z.2.2 + 624 - Z0.2.2 := by omega
  rw [e6, e7] at X'
  obtain ⟨t9, a1, b1⟩ := hk F1 rfl X'
  refine ⟨t9, step t9 ?_, b1⟩
  have e8 : T.heap.size = H.size := by rw [hT]
  rw [e8]
  exact a1
/-- a row of longs comes to a row of rows -/
theorem aw_aastL {i n i2 : Nat} {x : Int32} (hd : Dc M pc .aastore 1 pc2) (hx : x = nI n) (hn : n < 24) (k : AWq l E d M Z0 pc2 ls st I L (sR R 16 i n (some (17, i2))) Z Q) : AWq l E d M Z0 pc ls (vr 17 i2 :: vi x :: vr 16 i :: st) I L R Z Q := by
  obtain ⟨hd, rfl⟩ := hd
  subst hx
  obtain ⟨r, I2, L2, R2, Z2, hq, hz, k⟩ := k
  refine ⟨r, I2, L2, R2, Z2, hq, hz, fun p e Rm s m args below meth c F h1 h2 h3 h4 als H locs hl v1 v2 hW hS => ?_⟩
  have hb : n < 2147483648 := by omega
  have hvd : VD Z 16 i := vd_of (vh1 (vt1 (vt1 v1))) (by decide)
  have hat := hW.at hvd
  have hvd2 : VD Z 17 i2 := vd_of (vh1 v1) (by decide)
  have hat2 := hW.at hvd2
  have hK := F.2.2.2.2.2.1.1
  have htc : tc 16 = 7 := rfl
  have hal : alen Z 16 i = 24 := rfl
  rw [cell_r E I L R Z (by decide) (by decide), htc] at hat
  rw [cell_l E I L R Z (by decide) rfl] at hat2
  have hn2 : n < alen Z 16 i := hal ▸ hn
  generalize hNN : alen Z 16 i = NN at hat hn2
  generalize alen Z 17 i2 = N2 at hat2
  obtain ⟨comp, cA, kA, g1, g2, g3, g4, g5⟩ := arrayOverA_spec F.2.2.2.2.2.1.2.2.1.2.2.2.2.1
  have hra := (hK.2 7 _ (tys_at E (by decide))).2
  have hrb := (hK.2 1 _ (tys_at E (by decide))).2
  have hcA : cA = E.2.1 7 := Option.some.inj (g5.symm.trans hra)
  have hcm : comp = E.2.1 1 := Option.some.inj (g1.symm.trans hrb)
  subst hcA
  subst hcm
  obtain ⟨-, k9, hk9, cm9, hkk9⟩ := (hK.2 1 _ (tys_at E (by decide))).1 25 (fun _ => .null)
  have hin := in_nI (N := NN) hn2 hb
  refine W.aast F.1 F.2.1 hat (fun q h => by cases h) (fun h => by cases h) g3 g4 rfl hk9 ⟨fun q => hin (Or.inl q), by show _ < (arrV _ _ _).slots.size; rw [arrV_size, nI_clamp hb]; exact hn2⟩ hat2 (fun q h => by cases h) hk9 (va_asg _ _) rfl rfl hd fun H1 e1 e2 e3 => ?_
  refine k p e Rm s m args below meth c F h1 h2 h3 h4 als H1 _ hl (vt1 (vt1 (vt1 v1))) v2 (hW.put hvd e2 e3 ?_ (fun t2 i2 hne => ⟨rfl, rfl, sR_n hne⟩) (fun k q hq => ?_)) (hS.put e2 e3 (af_ad (t := 16) (by decide)))
  · rw [cell_r E I L _ Z (by decide) (by decide), sR_s, htc, hNN]
    show H1[_]? = some (vp_cell _ _)
    have e4 : (fun j => cR E (va_up (R 16 i) n (some (17, i2)) j)) = va_up (fun j => cR E (R 16 i j)) n (some (ad E 17 i2)) := by
      funext j
      by_cases e : j = n
      · subst e
        rw [up_s, up_s]
        rfl
      · rw [up_n e, up_n e]
    rw [e1, nI_clamp hb, e4, ← arr_updR, ← arrV_store]
    rfl
  · rw [sR_s] at hq
    by_cases e : k = n
    · subst e
      rw [up_s] at hq
      cases hq
      exact Or.inr hvd2
    · rw [up_n e] at hq
      exact hW.2.2 16 i k q hq hvd
/-- places of one row of ints come to another one, or the same -/
def cpI (I : It) (t i sp t2 i2 dp n : Nat) : It := fun t3 i3 k => if t3 = t2 ∧ i3 = i2 then va_cpy (I t i) (I t2 i2) sp dp n k else I t3 i3 k
theorem aw_acopy {idx t i t2 i2 sp dp n : Nat} {xs xd xn : Int32} (hd : Dc M pc (.invokestatic idx) 3 pc2) (hlk : Cond.methodLink M.1.cls idx arraycopyName ∈ G) (hnat : Cond.native arraycopyName ∈ G) (hst : Cond.static arraycopyName ∈ G) (hini : Cond.initialized "java/lang/System" ∈ G) (h1 : xs = nI sp) (h2 : xd = nI dp) (h3 : xn = nI n) (h4 : sp + n ≤ alen Z t i) (h5 : dp + n ≤ alen Z t2 i2) (hb : sp < 10000 ∧ dp < 10000 ∧ n < 10000) (hw : (st.map wd).sum ≤ 8)
    (k : AWq l E (d + 1) M Z0 pc2 ls st (cpI I t i sp t2 i2 dp n) L R Z Q) (ht : (10 ≤ t ∧ t < 50 ∧ tc t = 0) ∧ (10 ≤ t2 ∧ t2 < 50 ∧ tc t2 = 0) := by exact ⟨⟨by decide, by decide, rfl⟩, ⟨by decide, by decide, rfl⟩⟩) : AWq l E (d + 1) M Z0 pc ls (vi xn :: vi xd :: vr t2 i2 :: vi xs :: vr t i :: st) I L R Z Q := by
  obtain ⟨hd, rfl⟩ := hd
  subst h1
  subst h2
  subst h3
  obtain ⟨⟨ta, tb, tcc⟩, ua, ub, uc⟩ := ht
  obtain ⟨r, I2, L2, R2, Z2, hq, hz, k⟩ := k
  refine ⟨r, I2, L2, R2, Z2, hq, hz, fun p e Rm s m args below meth c F g1 g2 g3 g4 als H locs hl v1 v2 hW hS => ?_⟩
  have hts := F.2.2.2.2.1
  have hK := F.2.2.2.2.2.1.1
  have f1 := F.2.2.2.2.2.2.2.2.2.1
  have f2 := F.2.2.2.2.2.2.2.2.2.2.1
  have hvd : VD Z t i := vd_of (vh1 (vt1 (vt1 (vt1 (vt1 v1))))) tb
  have hvd2 : VD Z t2 i2 := vd_of (vh1 (vt1 (vt1 v1))) ub
  have hat := hW.at hvd
  have hat2 := hW.at hvd2
  rw [cell_i E I L R Z ta (by omega) (by omega), tcc] at hat
  rw [cell_i E I L R Z ua (by omega) (by omega), uc] at hat2
  have nn : ∀ z, z < 10000 → (nI z).toInt = (z : Int) := fun z hz => nI_toInt (by omega)
  have nc : ∀ z, z < 10000 → (nI z).toNatClampNeg = z := fun z hz => nI_clamp (by omega)
  intro T hT X
  obtain ⟨-, k0, hk0, cm0, hkk0⟩ := (hK.2 0 _ (tys_at E (by decide))).1 (alen Z t i) (fun j => .int (I t i j))
  obtain ⟨vm', X', step⟩ := X.arraycopy F.1 F.2.2.2.1 (hts _ hlk) (hts _ hnat) (hts _ hst) (hts _ hini) (src := ad E t i) (dst := ad E t2 i2) (cs := vp_cell (E.2.1 0) (alen Z t i, .inl (I t i))) (cd := vp_cell (E.2.1 0) (alen Z t2 i2, .inl (I t2 i2))) (srcPos := nI sp) (destPos := nI dp) (n := nI n) (by rw [hT]; exact hat) (by rw [hT]; exact hat2)
    (fun _ h => by cases h) (fun _ h => by cases h) (fun h => by cases h) (fun h => by cases h) hk0 hk0 hkk0 hkk0 (by rfl) (nI_pos (by omega)) (nI_pos (by omega)) (nI_pos (by omega))
    (by rw [nn sp hb.1, nn n hb.2.2]; show ¬ _ > ((arrV _ _ (fun j => .int (I t i j))).slots.size : Int); rw [arrV_size]; omega)
    (by rw [nn dp hb.2.1, nn n hb.2.2]; show ¬ _ > ((arrV _ _ (fun j => .int (I t2 i2 j))).slots.size : Int); rw [arrV_size]; omega)
    (fun vm₁ _ j hj => by
      rw [nc n hb.2.2] at hj
      have e : (vp_cell (E.2.1 0) (alen Z t i, .inl (I t i))).slots.getD ((nI sp).toNatClampNeg + j) .null = .int (I t i (sp + j)) := by
        show (arrV _ _ (fun j => .int (I t i j))).slots.getD _ _ = _
        rw [Array.getD_eq_getD_getElem?, nc sp hb.1, arrV_read _ _ (by omega)]
        rfl
      refine ⟨?_, ?_⟩
      · rw [e]
        rfl
      · rw [e]
        exact trivial)
    (g := F0 m pc als ((vi (nI n) :: vi (nI dp) :: vr t2 i2 :: vi (nI sp) :: vr t i :: st).map (cv E))) rfl (by show als.size = _; rw [F.2.2.1]; exact hl.1.1) (rest := st.map (cv E)) rfl (by rw [F.2.1]; exact hd) (by omega) (by
      show 2 * 0 + ((st.map (cv E)).map fun v => v.category).sum + _ ≤ _
      rw [wd_sum]
      have e9 : nativeFrameWords "java/lang/System" "arraycopy" 5 + 11 ≤ 30 := by decide
      omega)
  have e1 : copied (vp_cell (E.2.1 0) (alen Z t i, .inl (I t i))) (vp_cell (E.2.1 0) (alen Z t2 i2, .inl (I t2 i2))) (nI sp) (nI dp) (nI n) = vp_cell (E.2.1 0) (alen Z t2 i2, .inl (va_cpy (I t i) (I t2 i2) sp dp n)) := by
    have := va_copied (fun z => .int z) (E.2.1 0) (E.2.1 0) (n1 := alen Z t2 i2) (sp := (nI sp).toNatClampNeg) (dp := (nI dp).toNatClampNeg) (n := (nI n).toNatClampNeg) (n0 := alen Z t i) (I t i) (I t2 i2) (by rw [nc sp hb.1, nc n hb.2.2]; exact h4)
    rw [nc sp hb.1, nc dp hb.2.1, nc n hb.2.2] at this
    rw [vp_cell_i, vp_cell_i, vp_cell_i, ← this]
    unfold copied
    rw [nc sp hb.1, nc dp hb.2.1, nc n hb.2.2]
  rw [e1] at X' step
  have hl2 : ad E t2 i2 < H.size := (Array.getElem?_eq_some_iff.mp hat2).1
  generalize hC : vp_cell (E.2.1 0) (alen Z t2 i2, .inl (va_cpy (I t i) (I t2 i2) sp dp n)) = C at X' step
  have hheap : ((T.setVm vm').setCell (ad E t2 i2) C).heap = H.setIfInBounds (ad E t2 i2) C := by rw [← hT]; rfl
  have e2 : (H.setIfInBounds (ad E t2 i2) C).size = H.size := by simp
  have e3 : ∀ q : Nat, q ≠ ad E t2 i2 → (H.setIfInBounds (ad E t2 i2) C)[q]? = H[q]? := fun q hq => by simp [Array.getElem?_setIfInBounds, Ne.symm hq]
  have e4 : (H.setIfInBounds (ad E t2 i2) C)[ad E t2 i2]? = some C := by simp [Array.getElem?_setIfInBounds, hl2]
  have hself : cpI I t i sp t2 i2 dp n t2 i2 = va_cpy (I t i) (I t2 i2) sp dp n := by
    funext j
    unfold cpI
    rw [if_pos ⟨rfl, rfl⟩]
  have hW2 : Wo E (cpI I t i sp t2 i2 dp n) L R Z (H.setIfInBounds (ad E t2 i2) C) := by
    refine hW.put hvd2 e2 e3 ?_ (fun t3 i3 hne => ⟨by funext j; unfold cpI; rw [if_neg hne], rfl, rfl⟩) (fun k q hq => hW.2.2 t2 i2 k q hq hvd2)
    rw [cell_i E _ L R Z ua (by omega) (by omega), uc, hself]
    show (H.setIfInBounds (ad E t2 i2) C)[_]? = some (vp_cell _ _)
    rw [e4, hC]
  obtain ⟨t9, a1, b1⟩ := k p e Rm s m args below meth c F g1 g2 g3 g4 als _ _ hl (vt1 (vt1 (vt1 (vt1 (vt1 v1))))) v2 hW2 ⟨by rw [e2]; exact hS.1, fun q x1 x2 => by
      rw [e3 q (fun e => x2 (by rw [e]; exact af_ad ub))]
      exact hS.2.1 q x1 x2, fun q hq => by
      rcases List.mem_append.mp hq with h | h
      · exact hS.2.2 q h
      · obtain ⟨z, -, hz⟩ := List.mem_map.mp h
        rw [← hz]
        exact af_ad ub⟩ _ hheap X'
  exact ⟨t9, step t9 a1, b1⟩
end MAKE2
end
