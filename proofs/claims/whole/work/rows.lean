section
-- ===== PART A: goes FIRST, ahead of the names: the tables' words, and 'selects' of the private methods out of them =====
/-- a private method of a class that the tables say can be made, by its rows of tables_1 -/
def lw_okq (q : MethodName × Nat) : Prop := (q.1.cls ≠ "java/lang/invoke/MethodHandle" ∧ q.1.cls ≠ "java/lang/invoke/VarHandle") ∧ Cond.instantiable q.1.cls q.2 ∈ tables_1 ∧ Cond.privateMethod q.1 ∈ tables_1 ∧ Cond.instanceMethod q.1 ∈ tables_1
theorem lw_p0 : lw_okq (⟨"PowerBonds", "settlerOf", "(I)I"⟩, 13) := ⟨⟨by decide +kernel, by decide +kernel⟩, List.mem_of_getElem? (i := 20) (by decide +kernel), List.mem_of_getElem? (i := 387) (by decide +kernel), List.mem_of_getElem? (i := 388) (by decide +kernel)⟩
theorem lw_p1 : lw_okq (⟨"PowerBonds$LineUps", "allows", "(LPowerBonds$Part;II)Z"⟩, 5) := ⟨⟨by decide +kernel, by decide +kernel⟩, List.mem_of_getElem? (i := 144) (by decide +kernel), List.mem_of_getElem? (i := 410) (by decide +kernel), List.mem_of_getElem? (i := 411) (by decide +kernel)⟩
theorem lw_p2 : lw_okq (⟨"PowerBonds$LineUps", "settledBy", "(II)I"⟩, 5) := ⟨⟨by decide +kernel, by decide +kernel⟩, List.mem_of_getElem? (i := 144) (by decide +kernel), List.mem_of_getElem? (i := 414) (by decide +kernel), List.mem_of_getElem? (i := 415) (by decide +kernel)⟩
theorem lw_p3 : lw_okq (⟨"PowerBonds$LineUps", "weigh", "(LPowerBonds$Machine;I)V"⟩, 5) := ⟨⟨by decide +kernel, by decide +kernel⟩, List.mem_of_getElem? (i := 144) (by decide +kernel), List.mem_of_getElem? (i := 424) (by decide +kernel), List.mem_of_getElem? (i := 425) (by decide +kernel)⟩
theorem lw_p4 : lw_okq (⟨"PowerBonds$LineUps", "sums", "(LPowerBonds$Machine;II)Z"⟩, 5) := ⟨⟨by decide +kernel, by decide +kernel⟩, List.mem_of_getElem? (i := 144) (by decide +kernel), List.mem_of_getElem? (i := 428) (by decide +kernel), List.mem_of_getElem? (i := 429) (by decide +kernel)⟩
theorem lw_p5 : lw_okq (⟨"PowerBonds$LineUps", "nextWithout", "(II)I"⟩, 5) := ⟨⟨by decide +kernel, by decide +kernel⟩, List.mem_of_getElem? (i := 144) (by decide +kernel), List.mem_of_getElem? (i := 432) (by decide +kernel), List.mem_of_getElem? (i := 433) (by decide +kernel)⟩
theorem lw_p6 : lw_okq (⟨"PowerBonds", "carriedBy", "(II)I"⟩, 13) := ⟨⟨by decide +kernel, by decide +kernel⟩, List.mem_of_getElem? (i := 20) (by decide +kernel), List.mem_of_getElem? (i := 437) (by decide +kernel), List.mem_of_getElem? (i := 438) (by decide +kernel)⟩
theorem lw_p7 : lw_okq (⟨"PowerBonds$Answer", "writeLaws", "(LPowerBonds$Machine;)V"⟩, 5) := ⟨⟨by decide +kernel, by decide +kernel⟩, List.mem_of_getElem? (i := 115) (by decide +kernel), List.mem_of_getElem? (i := 447) (by decide +kernel), List.mem_of_getElem? (i := 448) (by decide +kernel)⟩
theorem lw_p8 : lw_okq (⟨"PowerBonds$Answer", "writeTurn", "(LPowerBonds$Part;II)V"⟩, 5) := ⟨⟨by decide +kernel, by decide +kernel⟩, List.mem_of_getElem? (i := 115) (by decide +kernel), List.mem_of_getElem? (i := 455) (by decide +kernel), List.mem_of_getElem? (i := 456) (by decide +kernel)⟩
theorem lw_p9 : lw_okq (⟨"PowerBonds$Answer", "writeTimes", "(III)V"⟩, 5) := ⟨⟨by decide +kernel, by decide +kernel⟩, List.mem_of_getElem? (i := 115) (by decide +kernel), List.mem_of_getElem? (i := 463) (by decide +kernel), List.mem_of_getElem? (i := 464) (by decide +kernel)⟩
theorem lw_p10 : lw_okq (⟨"PowerBonds$Answer", "newRow", "()[J"⟩, 5) := ⟨⟨by decide +kernel, by decide +kernel⟩, List.mem_of_getElem? (i := 115) (by decide +kernel), List.mem_of_getElem? (i := 467) (by decide +kernel), List.mem_of_getElem? (i := 468) (by decide +kernel)⟩
theorem lw_p11 : lw_okq (⟨"PowerBonds$Answer", "writeJoin", "(LPowerBonds$Machine;II)V"⟩, 5) := ⟨⟨by decide +kernel, by decide +kernel⟩, List.mem_of_getElem? (i := 115) (by decide +kernel), List.mem_of_getElem? (i := 475) (by decide +kernel), List.mem_of_getElem? (i := 476) (by decide +kernel)⟩
theorem lw_p12 : lw_okq (⟨"PowerBonds$Answer", "writeEnd", "(LPowerBonds$Part;I)V"⟩, 5) := ⟨⟨by decide +kernel, by decide +kernel⟩, List.mem_of_getElem? (i := 115) (by decide +kernel), List.mem_of_getElem? (i := 480) (by decide +kernel), List.mem_of_getElem? (i := 481) (by decide +kernel)⟩
theorem lw_p13 : lw_okq (⟨"PowerBonds$Answer", "reduce", "()I"⟩, 5) := ⟨⟨by decide +kernel, by decide +kernel⟩, List.mem_of_getElem? (i := 115) (by decide +kernel), List.mem_of_getElem? (i := 485) (by decide +kernel), List.mem_of_getElem? (i := 486) (by decide +kernel)⟩
theorem lw_p14 : lw_okq (⟨"PowerBonds$Answer", "rowWith", "(II)I"⟩, 5) := ⟨⟨by decide +kernel, by decide +kernel⟩, List.mem_of_getElem? (i := 115) (by decide +kernel), List.mem_of_getElem? (i := 489) (by decide +kernel), List.mem_of_getElem? (i := 490) (by decide +kernel)⟩
theorem lw_p15 : lw_okq (⟨"PowerBonds$Answer", "scale", "([JI)V"⟩, 5) := ⟨⟨by decide +kernel, by decide +kernel⟩, List.mem_of_getElem? (i := 115) (by decide +kernel), List.mem_of_getElem? (i := 493) (by decide +kernel), List.mem_of_getElem? (i := 494) (by decide +kernel)⟩
def lw_privs_1 : List (MethodName × Nat) := [(⟨"PowerBonds", "settlerOf", "(I)I"⟩, 13), (⟨"PowerBonds$LineUps", "allows", "(LPowerBonds$Part;II)Z"⟩, 5), (⟨"PowerBonds$LineUps", "settledBy", "(II)I"⟩, 5), (⟨"PowerBonds$LineUps", "weigh", "(LPowerBonds$Machine;I)V"⟩, 5), (⟨"PowerBonds$LineUps", "sums", "(LPowerBonds$Machine;II)Z"⟩, 5), (⟨"PowerBonds$LineUps", "nextWithout", "(II)I"⟩, 5), (⟨"PowerBonds", "carriedBy", "(II)I"⟩, 13), (⟨"PowerBonds$Answer", "writeLaws", "(LPowerBonds$Machine;)V"⟩, 5), (⟨"PowerBonds$Answer", "writeTurn", "(LPowerBonds$Part;II)V"⟩, 5), (⟨"PowerBonds$Answer", "writeTimes", "(III)V"⟩, 5), (⟨"PowerBonds$Answer", "newRow", "()[J"⟩, 5), (⟨"PowerBonds$Answer", "writeJoin", "(LPowerBonds$Machine;II)V"⟩, 5), (⟨"PowerBonds$Answer", "writeEnd", "(LPowerBonds$Part;I)V"⟩, 5), (⟨"PowerBonds$Answer", "reduce", "()I"⟩, 5), (⟨"PowerBonds$Answer", "rowWith", "(II)I"⟩, 5), (⟨"PowerBonds$Answer", "scale", "([JI)V"⟩, 5)]
theorem lw_r1 : ∀ q ∈ lw_privs_1, lw_okq q := List.forall_mem_cons.mpr ⟨lw_p0, List.forall_mem_cons.mpr ⟨lw_p1, List.forall_mem_cons.mpr ⟨lw_p2, List.forall_mem_cons.mpr ⟨lw_p3, List.forall_mem_cons.mpr ⟨lw_p4, List.forall_mem_cons.mpr ⟨lw_p5, List.forall_mem_cons.mpr ⟨lw_p6, List.forall_mem_cons.mpr ⟨lw_p7, List.forall_mem_cons.mpr ⟨lw_p8, List.forall_mem_cons.mpr ⟨lw_p9, List.forall_mem_cons.mpr ⟨lw_p10, List.forall_mem_cons.mpr ⟨lw_p11, List.forall_mem_cons.mpr ⟨lw_p12, List.forall_mem_cons.mpr ⟨lw_p13, List.forall_mem_cons.mpr ⟨lw_p14, List.forall_mem_cons.mpr ⟨lw_p15, fun _ h => absurd h List.not_mem_nil⟩⟩⟩⟩⟩⟩⟩⟩⟩⟩⟩⟩⟩⟩⟩⟩
theorem lw_p16 : lw_okq (⟨"PowerBonds$Answer", "clearOthers", "(II)V"⟩, 5) := ⟨⟨by decide +kernel, by decide +kernel⟩, List.mem_of_getElem? (i := 115) (by decide +kernel), List.mem_of_getElem? (i := 499) (by decide +kernel), List.mem_of_getElem? (i := 500) (by decide +kernel)⟩
theorem lw_p17 : lw_okq (⟨"PowerBonds$Tape", "goOn", "()V"⟩, 9) := ⟨⟨by decide +kernel, by decide +kernel⟩, List.mem_of_getElem? (i := 169) (by decide +kernel), List.mem_of_getElem? (i := 594) (by decide +kernel), List.mem_of_getElem? (i := 595) (by decide +kernel)⟩
theorem lw_p18 : lw_okq (⟨"PowerBonds$Tape", "sortAt", "(I)I"⟩, 9) := ⟨⟨by decide +kernel, by decide +kernel⟩, List.mem_of_getElem? (i := 169) (by decide +kernel), List.mem_of_getElem? (i := 598) (by decide +kernel), List.mem_of_getElem? (i := 599) (by decide +kernel)⟩
theorem lw_p19 : lw_okq (⟨"PowerBonds$Tape", "keyHere", "()I"⟩, 9) := ⟨⟨by decide +kernel, by decide +kernel⟩, List.mem_of_getElem? (i := 169) (by decide +kernel), List.mem_of_getElem? (i := 602) (by decide +kernel), List.mem_of_getElem? (i := 603) (by decide +kernel)⟩
theorem lw_p20 : lw_okq (⟨"PowerBonds$Tape", "isWord", "(Ljava/lang/String;)Z"⟩, 9) := ⟨⟨by decide +kernel, by decide +kernel⟩, List.mem_of_getElem? (i := 169) (by decide +kernel), List.mem_of_getElem? (i := 607) (by decide +kernel), List.mem_of_getElem? (i := 608) (by decide +kernel)⟩
theorem lw_p21 : lw_okq (⟨"PowerBonds$Tape", "numberHere", "()I"⟩, 9) := ⟨⟨by decide +kernel, by decide +kernel⟩, List.mem_of_getElem? (i := 169) (by decide +kernel), List.mem_of_getElem? (i := 660) (by decide +kernel), List.mem_of_getElem? (i := 661) (by decide +kernel)⟩
theorem lw_p22 : lw_okq (⟨"PowerBonds$Tape", "readLevel", "(III)Z"⟩, 9) := ⟨⟨by decide +kernel, by decide +kernel⟩, List.mem_of_getElem? (i := 169) (by decide +kernel), List.mem_of_getElem? (i := 664) (by decide +kernel), List.mem_of_getElem? (i := 665) (by decide +kernel)⟩
theorem lw_p23 : lw_okq (⟨"PowerBonds$Tape", "readPiece", "(II)Z"⟩, 9) := ⟨⟨by decide +kernel, by decide +kernel⟩, List.mem_of_getElem? (i := 169) (by decide +kernel), List.mem_of_getElem? (i := 668) (by decide +kernel), List.mem_of_getElem? (i := 669) (by decide +kernel)⟩
theorem lw_p24 : lw_okq (⟨"PowerBonds$Tape", "isSign", "(I)Z"⟩, 9) := ⟨⟨by decide +kernel, by decide +kernel⟩, List.mem_of_getElem? (i := 169) (by decide +kernel), List.mem_of_getElem? (i := 672) (by decide +kernel), List.mem_of_getElem? (i := 673) (by decide +kernel)⟩
theorem lw_p25 : lw_okq (⟨"PowerBonds$Tape", "put", "(I)V"⟩, 9) := ⟨⟨by decide +kernel, by decide +kernel⟩, List.mem_of_getElem? (i := 169) (by decide +kernel), List.mem_of_getElem? (i := 676) (by decide +kernel), List.mem_of_getElem? (i := 677) (by decide +kernel)⟩
theorem lw_p26 : lw_okq (⟨"PowerBonds$Tape", "readOperand", "()Z"⟩, 9) := ⟨⟨by decide +kernel, by decide +kernel⟩, List.mem_of_getElem? (i := 169) (by decide +kernel), List.mem_of_getElem? (i := 680) (by decide +kernel), List.mem_of_getElem? (i := 681) (by decide +kernel)⟩
theorem lw_p27 : lw_okq (⟨"PowerBonds$Tape", "isName", "()Z"⟩, 9) := ⟨⟨by decide +kernel, by decide +kernel⟩, List.mem_of_getElem? (i := 169) (by decide +kernel), List.mem_of_getElem? (i := 684) (by decide +kernel), List.mem_of_getElem? (i := 685) (by decide +kernel)⟩
theorem lw_p28 : lw_okq (⟨"PowerBonds$Tape", "joinsAt", "(I)Z"⟩, 9) := ⟨⟨by decide +kernel, by decide +kernel⟩, List.mem_of_getElem? (i := 169) (by decide +kernel), List.mem_of_getElem? (i := 688) (by decide +kernel), List.mem_of_getElem? (i := 689) (by decide +kernel)⟩
theorem lw_p29 : lw_okq (⟨"PowerBonds", "signsOf", "(I)I"⟩, 13) := ⟨⟨by decide +kernel, by decide +kernel⟩, List.mem_of_getElem? (i := 20) (by decide +kernel), List.mem_of_getElem? (i := 756) (by decide +kernel), List.mem_of_getElem? (i := 757) (by decide +kernel)⟩
theorem lw_p30 : lw_okq (⟨"PowerBondsModel", "partAt", "(I)I"⟩, 35) := ⟨⟨by decide +kernel, by decide +kernel⟩, List.mem_of_getElem? (i := 891) (by decide +kernel), List.mem_of_getElem? (i := 1032) (by decide +kernel), List.mem_of_getElem? (i := 1033) (by decide +kernel)⟩
theorem lw_p31 : lw_okq (⟨"PowerBondsModel", "isPart", "(I)Z"⟩, 35) := ⟨⟨by decide +kernel, by decide +kernel⟩, List.mem_of_getElem? (i := 891) (by decide +kernel), List.mem_of_getElem? (i := 1040) (by decide +kernel), List.mem_of_getElem? (i := 1041) (by decide +kernel)⟩
def lw_privs_2 : List (MethodName × Nat) := [(⟨"PowerBonds$Answer", "clearOthers", "(II)V"⟩, 5), (⟨"PowerBonds$Tape", "goOn", "()V"⟩, 9), (⟨"PowerBonds$Tape", "sortAt", "(I)I"⟩, 9), (⟨"PowerBonds$Tape", "keyHere", "()I"⟩, 9), (⟨"PowerBonds$Tape", "isWord", "(Ljava/lang/String;)Z"⟩, 9), (⟨"PowerBonds$Tape", "numberHere", "()I"⟩, 9), (⟨"PowerBonds$Tape", "readLevel", "(III)Z"⟩, 9), (⟨"PowerBonds$Tape", "readPiece", "(II)Z"⟩, 9), (⟨"PowerBonds$Tape", "isSign", "(I)Z"⟩, 9), (⟨"PowerBonds$Tape", "put", "(I)V"⟩, 9), (⟨"PowerBonds$Tape", "readOperand", "()Z"⟩, 9), (⟨"PowerBonds$Tape", "isName", "()Z"⟩, 9), (⟨"PowerBonds$Tape", "joinsAt", "(I)Z"⟩, 9), (⟨"PowerBonds", "signsOf", "(I)I"⟩, 13), (⟨"PowerBondsModel", "partAt", "(I)I"⟩, 35), (⟨"PowerBondsModel", "isPart", "(I)Z"⟩, 35)]
theorem lw_r2 : ∀ q ∈ lw_privs_2, lw_okq q := List.forall_mem_cons.mpr ⟨lw_p16, List.forall_mem_cons.mpr ⟨lw_p17, List.forall_mem_cons.mpr ⟨lw_p18, List.forall_mem_cons.mpr ⟨lw_p19, List.forall_mem_cons.mpr ⟨lw_p20, List.forall_mem_cons.mpr ⟨lw_p21, List.forall_mem_cons.mpr ⟨lw_p22, List.forall_mem_cons.mpr ⟨lw_p23, List.forall_mem_cons.mpr ⟨lw_p24, List.forall_mem_cons.mpr ⟨lw_p25, List.forall_mem_cons.mpr ⟨lw_p26, List.forall_mem_cons.mpr ⟨lw_p27, List.forall_mem_cons.mpr ⟨lw_p28, List.forall_mem_cons.mpr ⟨lw_p29, List.forall_mem_cons.mpr ⟨lw_p30, List.forall_mem_cons.mpr ⟨lw_p31, fun _ h => absurd h List.not_mem_nil⟩⟩⟩⟩⟩⟩⟩⟩⟩⟩⟩⟩⟩⟩⟩⟩
theorem lw_p32 : lw_okq (⟨"PowerBondsModel", "endsOf", "(I)I"⟩, 35) := ⟨⟨by decide +kernel, by decide +kernel⟩, List.mem_of_getElem? (i := 891) (by decide +kernel), List.mem_of_getElem? (i := 1044) (by decide +kernel), List.mem_of_getElem? (i := 1045) (by decide +kernel)⟩
theorem lw_p33 : lw_okq (⟨"PowerBondsModel", "comes", "(II)I"⟩, 35) := ⟨⟨by decide +kernel, by decide +kernel⟩, List.mem_of_getElem? (i := 891) (by decide +kernel), List.mem_of_getElem? (i := 1048) (by decide +kernel), List.mem_of_getElem? (i := 1049) (by decide +kernel)⟩
theorem lw_p34 : lw_okq (⟨"PowerBondsModel", "hasEnds", "(I)Z"⟩, 35) := ⟨⟨by decide +kernel, by decide +kernel⟩, List.mem_of_getElem? (i := 891) (by decide +kernel), List.mem_of_getElem? (i := 1052) (by decide +kernel), List.mem_of_getElem? (i := 1053) (by decide +kernel)⟩
theorem lw_p35 : lw_okq (⟨"PowerBondsModel", "kindOf", "(I)I"⟩, 35) := ⟨⟨by decide +kernel, by decide +kernel⟩, List.mem_of_getElem? (i := 891) (by decide +kernel), List.mem_of_getElem? (i := 1056) (by decide +kernel), List.mem_of_getElem? (i := 1057) (by decide +kernel)⟩
theorem lw_p36 : lw_okq (⟨"PowerBondsModel", "becomes", "(II)I"⟩, 35) := ⟨⟨by decide +kernel, by decide +kernel⟩, List.mem_of_getElem? (i := 891) (by decide +kernel), List.mem_of_getElem? (i := 1076) (by decide +kernel), List.mem_of_getElem? (i := 1077) (by decide +kernel)⟩
theorem lw_p37 : lw_okq (⟨"PowerBondsModel", "isBond", "(I)Z"⟩, 35) := ⟨⟨by decide +kernel, by decide +kernel⟩, List.mem_of_getElem? (i := 891) (by decide +kernel), List.mem_of_getElem? (i := 1088) (by decide +kernel), List.mem_of_getElem? (i := 1089) (by decide +kernel)⟩
theorem lw_p38 : lw_okq (⟨"PowerBondsModel", "isWhole", "()Z"⟩, 35) := ⟨⟨by decide +kernel, by decide +kernel⟩, List.mem_of_getElem? (i := 891) (by decide +kernel), List.mem_of_getElem? (i := 1096) (by decide +kernel), List.mem_of_getElem? (i := 1097) (by decide +kernel)⟩
theorem lw_p39 : lw_okq (⟨"PowerBondsModel", "solve", "()I"⟩, 35) := ⟨⟨by decide +kernel, by decide +kernel⟩, List.mem_of_getElem? (i := 891) (by decide +kernel), List.mem_of_getElem? (i := 1104) (by decide +kernel), List.mem_of_getElem? (i := 1105) (by decide +kernel)⟩
theorem lw_p40 : lw_okq (⟨"PowerBondsModel", "lawsOf", "(I)V"⟩, 35) := ⟨⟨by decide +kernel, by decide +kernel⟩, List.mem_of_getElem? (i := 891) (by decide +kernel), List.mem_of_getElem? (i := 1108) (by decide +kernel), List.mem_of_getElem? (i := 1109) (by decide +kernel)⟩
theorem lw_p41 : lw_okq (⟨"PowerBondsModel", "lawsOfTurn", "(IJ)V"⟩, 35) := ⟨⟨by decide +kernel, by decide +kernel⟩, List.mem_of_getElem? (i := 891) (by decide +kernel), List.mem_of_getElem? (i := 1112) (by decide +kernel), List.mem_of_getElem? (i := 1113) (by decide +kernel)⟩
theorem lw_p42 : lw_okq (⟨"PowerBondsModel", "bondOf", "(II)I"⟩, 35) := ⟨⟨by decide +kernel, by decide +kernel⟩, List.mem_of_getElem? (i := 891) (by decide +kernel), List.mem_of_getElem? (i := 1116) (by decide +kernel), List.mem_of_getElem? (i := 1117) (by decide +kernel)⟩
theorem lw_p43 : lw_okq (⟨"PowerBondsModel", "sortOf", "(I)I"⟩, 35) := ⟨⟨by decide +kernel, by decide +kernel⟩, List.mem_of_getElem? (i := 891) (by decide +kernel), List.mem_of_getElem? (i := 1120) (by decide +kernel), List.mem_of_getElem? (i := 1121) (by decide +kernel)⟩
theorem lw_p44 : lw_okq (⟨"PowerBondsModel", "line", "()V"⟩, 35) := ⟨⟨by decide +kernel, by decide +kernel⟩, List.mem_of_getElem? (i := 891) (by decide +kernel), List.mem_of_getElem? (i := 1124) (by decide +kernel), List.mem_of_getElem? (i := 1125) (by decide +kernel)⟩
theorem lw_p45 : lw_okq (⟨"PowerBondsModel", "put", "(IIJ)V"⟩, 35) := ⟨⟨by decide +kernel, by decide +kernel⟩, List.mem_of_getElem? (i := 891) (by decide +kernel), List.mem_of_getElem? (i := 1128) (by decide +kernel), List.mem_of_getElem? (i := 1129) (by decide +kernel)⟩
theorem lw_p46 : lw_okq (⟨"PowerBondsModel", "lawsOfJoin", "(I)V"⟩, 35) := ⟨⟨by decide +kernel, by decide +kernel⟩, List.mem_of_getElem? (i := 891) (by decide +kernel), List.mem_of_getElem? (i := 1132) (by decide +kernel), List.mem_of_getElem? (i := 1133) (by decide +kernel)⟩
theorem lw_p47 : lw_okq (⟨"PowerBondsModel", "comesTo", "(J)V"⟩, 35) := ⟨⟨by decide +kernel, by decide +kernel⟩, List.mem_of_getElem? (i := 891) (by decide +kernel), List.mem_of_getElem? (i := 1137) (by decide +kernel), List.mem_of_getElem? (i := 1138) (by decide +kernel)⟩
def lw_privs_3 : List (MethodName × Nat) := [(⟨"PowerBondsModel", "endsOf", "(I)I"⟩, 35), (⟨"PowerBondsModel", "comes", "(II)I"⟩, 35), (⟨"PowerBondsModel", "hasEnds", "(I)Z"⟩, 35), (⟨"PowerBondsModel", "kindOf", "(I)I"⟩, 35), (⟨"PowerBondsModel", "becomes", "(II)I"⟩, 35), (⟨"PowerBondsModel", "isBond", "(I)Z"⟩, 35), (⟨"PowerBondsModel", "isWhole", "()Z"⟩, 35), (⟨"PowerBondsModel", "solve", "()I"⟩, 35), (⟨"PowerBondsModel", "lawsOf", "(I)V"⟩, 35), (⟨"PowerBondsModel", "lawsOfTurn", "(IJ)V"⟩, 35), (⟨"PowerBondsModel", "bondOf", "(II)I"⟩, 35), (⟨"PowerBondsModel", "sortOf", "(I)I"⟩, 35), (⟨"PowerBondsModel", "line", "()V"⟩, 35), (⟨"PowerBondsModel", "put", "(IIJ)V"⟩, 35), (⟨"PowerBondsModel", "lawsOfJoin", "(I)V"⟩, 35), (⟨"PowerBondsModel", "comesTo", "(J)V"⟩, 35)]
theorem lw_r3 : ∀ q ∈ lw_privs_3, lw_okq q := List.forall_mem_cons.mpr ⟨lw_p32, List.forall_mem_cons.mpr ⟨lw_p33, List.forall_mem_cons.mpr ⟨lw_p34, List.forall_mem_cons.mpr ⟨lw_p35, List.forall_mem_cons.mpr ⟨lw_p36, List.forall_mem_cons.mpr ⟨lw_p37, List.forall_mem_cons.mpr ⟨lw_p38, List.forall_mem_cons.mpr ⟨lw_p39, List.forall_mem_cons.mpr ⟨lw_p40, List.forall_mem_cons.mpr ⟨lw_p41, List.forall_mem_cons.mpr ⟨lw_p42, List.forall_mem_cons.mpr ⟨lw_p43, List.forall_mem_cons.mpr ⟨lw_p44, List.forall_mem_cons.mpr ⟨lw_p45, List.forall_mem_cons.mpr ⟨lw_p46, List.forall_mem_cons.mpr ⟨lw_p47, fun _ h => absurd h List.not_mem_nil⟩⟩⟩⟩⟩⟩⟩⟩⟩⟩⟩⟩⟩⟩⟩⟩
theorem lw_p48 : lw_okq (⟨"PowerBondsModel", "swap", "(II)V"⟩, 35) := ⟨⟨by decide +kernel, by decide +kernel⟩, List.mem_of_getElem? (i := 891) (by decide +kernel), List.mem_of_getElem? (i := 1141) (by decide +kernel), List.mem_of_getElem? (i := 1142) (by decide +kernel)⟩
theorem lw_p49 : lw_okq (⟨"PowerBondsModel", "canBe", "(I)Z"⟩, 35) := ⟨⟨by decide +kernel, by decide +kernel⟩, List.mem_of_getElem? (i := 891) (by decide +kernel), List.mem_of_getElem? (i := 1154) (by decide +kernel), List.mem_of_getElem? (i := 1155) (by decide +kernel)⟩
theorem lw_p50 : lw_okq (⟨"PowerBondsModel", "settles", "(II)I"⟩, 35) := ⟨⟨by decide +kernel, by decide +kernel⟩, List.mem_of_getElem? (i := 891) (by decide +kernel), List.mem_of_getElem? (i := 1158) (by decide +kernel), List.mem_of_getElem? (i := 1159) (by decide +kernel)⟩
theorem lw_p51 : lw_okq (⟨"PowerBondsModel", "summing", "(I)I"⟩, 35) := ⟨⟨by decide +kernel, by decide +kernel⟩, List.mem_of_getElem? (i := 891) (by decide +kernel), List.mem_of_getElem? (i := 1162) (by decide +kernel), List.mem_of_getElem? (i := 1163) (by decide +kernel)⟩
theorem lw_p52 : lw_okq (⟨"PowerBondsModel", "sums", "(II)Z"⟩, 35) := ⟨⟨by decide +kernel, by decide +kernel⟩, List.mem_of_getElem? (i := 891) (by decide +kernel), List.mem_of_getElem? (i := 1166) (by decide +kernel), List.mem_of_getElem? (i := 1167) (by decide +kernel)⟩
theorem lw_p53 : lw_okq (⟨"PowerBondsModel", "tied", "(I)I"⟩, 35) := ⟨⟨by decide +kernel, by decide +kernel⟩, List.mem_of_getElem? (i := 891) (by decide +kernel), List.mem_of_getElem? (i := 1171) (by decide +kernel), List.mem_of_getElem? (i := 1172) (by decide +kernel)⟩
theorem lw_p54 : lw_okq (⟨"PowerBondsModel", "setAside", "([I[I)V"⟩, 35) := ⟨⟨by decide +kernel, by decide +kernel⟩, List.mem_of_getElem? (i := 891) (by decide +kernel), List.mem_of_getElem? (i := 1185) (by decide +kernel), List.mem_of_getElem? (i := 1186) (by decide +kernel)⟩
theorem lw_p55 : lw_okq (⟨"PowerBondsModel", "oneStep", "()I"⟩, 35) := ⟨⟨by decide +kernel, by decide +kernel⟩, List.mem_of_getElem? (i := 891) (by decide +kernel), List.mem_of_getElem? (i := 1189) (by decide +kernel), List.mem_of_getElem? (i := 1190) (by decide +kernel)⟩
theorem lw_p56 : lw_okq (⟨"PowerBondsModel", "gives", "(I)V"⟩, 35) := ⟨⟨by decide +kernel, by decide +kernel⟩, List.mem_of_getElem? (i := 891) (by decide +kernel), List.mem_of_getElem? (i := 1193) (by decide +kernel), List.mem_of_getElem? (i := 1194) (by decide +kernel)⟩
theorem lw_p57 : lw_okq (⟨"PowerBondsModel", "counts", "(I)I"⟩, 35) := ⟨⟨by decide +kernel, by decide +kernel⟩, List.mem_of_getElem? (i := 891) (by decide +kernel), List.mem_of_getElem? (i := 1197) (by decide +kernel), List.mem_of_getElem? (i := 1198) (by decide +kernel)⟩
theorem lw_p58 : lw_okq (⟨"PowerBondsModel", "textAt", "(I)I"⟩, 35) := ⟨⟨by decide +kernel, by decide +kernel⟩, List.mem_of_getElem? (i := 891) (by decide +kernel), List.mem_of_getElem? (i := 1201) (by decide +kernel), List.mem_of_getElem? (i := 1202) (by decide +kernel)⟩
theorem lw_p59 : lw_okq (⟨"PowerBondsModel", "worked", "(I)I"⟩, 35) := ⟨⟨by decide +kernel, by decide +kernel⟩, List.mem_of_getElem? (i := 891) (by decide +kernel), List.mem_of_getElem? (i := 1205) (by decide +kernel), List.mem_of_getElem? (i := 1206) (by decide +kernel)⟩
theorem lw_p60 : lw_okq (⟨"PowerBondsModel", "parse", "()I"⟩, 35) := ⟨⟨by decide +kernel, by decide +kernel⟩, List.mem_of_getElem? (i := 891) (by decide +kernel), List.mem_of_getElem? (i := 1224) (by decide +kernel), List.mem_of_getElem? (i := 1225) (by decide +kernel)⟩
theorem lw_p61 : lw_okq (⟨"PowerBondsModel", "next", "()V"⟩, 35) := ⟨⟨by decide +kernel, by decide +kernel⟩, List.mem_of_getElem? (i := 891) (by decide +kernel), List.mem_of_getElem? (i := 1228) (by decide +kernel), List.mem_of_getElem? (i := 1229) (by decide +kernel)⟩
theorem lw_p62 : lw_okq (⟨"PowerBondsModel", "isLetter", "(I)Z"⟩, 35) := ⟨⟨by decide +kernel, by decide +kernel⟩, List.mem_of_getElem? (i := 891) (by decide +kernel), List.mem_of_getElem? (i := 1232) (by decide +kernel), List.mem_of_getElem? (i := 1233) (by decide +kernel)⟩
theorem lw_p63 : lw_okq (⟨"PowerBondsModel", "isDigit", "(I)Z"⟩, 35) := ⟨⟨by decide +kernel, by decide +kernel⟩, List.mem_of_getElem? (i := 891) (by decide +kernel), List.mem_of_getElem? (i := 1238) (by decide +kernel), List.mem_of_getElem? (i := 1239) (by decide +kernel)⟩
def lw_privs_4 : List (MethodName × Nat) := [(⟨"PowerBondsModel", "swap", "(II)V"⟩, 35), (⟨"PowerBondsModel", "canBe", "(I)Z"⟩, 35), (⟨"PowerBondsModel", "settles", "(II)I"⟩, 35), (⟨"PowerBondsModel", "summing", "(I)I"⟩, 35), (⟨"PowerBondsModel", "sums", "(II)Z"⟩, 35), (⟨"PowerBondsModel", "tied", "(I)I"⟩, 35), (⟨"PowerBondsModel", "setAside", "([I[I)V"⟩, 35), (⟨"PowerBondsModel", "oneStep", "()I"⟩, 35), (⟨"PowerBondsModel", "gives", "(I)V"⟩, 35), (⟨"PowerBondsModel", "counts", "(I)I"⟩, 35), (⟨"PowerBondsModel", "textAt", "(I)I"⟩, 35), (⟨"PowerBondsModel", "worked", "(I)I"⟩, 35), (⟨"PowerBondsModel", "parse", "()I"⟩, 35), (⟨"PowerBondsModel", "next", "()V"⟩, 35), (⟨"PowerBondsModel", "isLetter", "(I)Z"⟩, 35), (⟨"PowerBondsModel", "isDigit", "(I)Z"⟩, 35)]
theorem lw_r4 : ∀ q ∈ lw_privs_4, lw_okq q := List.forall_mem_cons.mpr ⟨lw_p48, List.forall_mem_cons.mpr ⟨lw_p49, List.forall_mem_cons.mpr ⟨lw_p50, List.forall_mem_cons.mpr ⟨lw_p51, List.forall_mem_cons.mpr ⟨lw_p52, List.forall_mem_cons.mpr ⟨lw_p53, List.forall_mem_cons.mpr ⟨lw_p54, List.forall_mem_cons.mpr ⟨lw_p55, List.forall_mem_cons.mpr ⟨lw_p56, List.forall_mem_cons.mpr ⟨lw_p57, List.forall_mem_cons.mpr ⟨lw_p58, List.forall_mem_cons.mpr ⟨lw_p59, List.forall_mem_cons.mpr ⟨lw_p60, List.forall_mem_cons.mpr ⟨lw_p61, List.forall_mem_cons.mpr ⟨lw_p62, List.forall_mem_cons.mpr ⟨lw_p63, fun _ h => absurd h List.not_mem_nil⟩⟩⟩⟩⟩⟩⟩⟩⟩⟩⟩⟩⟩⟩⟩⟩
theorem lw_p64 : lw_okq (⟨"PowerBondsModel", "key", "()I"⟩, 35) := ⟨⟨by decide +kernel, by decide +kernel⟩, List.mem_of_getElem? (i := 891) (by decide +kernel), List.mem_of_getElem? (i := 1244) (by decide +kernel), List.mem_of_getElem? (i := 1245) (by decide +kernel)⟩
theorem lw_p65 : lw_okq (⟨"PowerBondsModel", "isWordAt", "(IIII)Z"⟩, 35) := ⟨⟨by decide +kernel, by decide +kernel⟩, List.mem_of_getElem? (i := 891) (by decide +kernel), List.mem_of_getElem? (i := 1248) (by decide +kernel), List.mem_of_getElem? (i := 1249) (by decide +kernel)⟩
theorem lw_p66 : lw_okq (⟨"PowerBondsModel", "either", "(I)Z"⟩, 35) := ⟨⟨by decide +kernel, by decide +kernel⟩, List.mem_of_getElem? (i := 891) (by decide +kernel), List.mem_of_getElem? (i := 1252) (by decide +kernel), List.mem_of_getElem? (i := 1253) (by decide +kernel)⟩
theorem lw_p67 : lw_okq (⟨"PowerBondsModel", "both", "(I)Z"⟩, 35) := ⟨⟨by decide +kernel, by decide +kernel⟩, List.mem_of_getElem? (i := 891) (by decide +kernel), List.mem_of_getElem? (i := 1256) (by decide +kernel), List.mem_of_getElem? (i := 1257) (by decide +kernel)⟩
theorem lw_p68 : lw_okq (⟨"PowerBondsModel", "test", "(I)Z"⟩, 35) := ⟨⟨by decide +kernel, by decide +kernel⟩, List.mem_of_getElem? (i := 891) (by decide +kernel), List.mem_of_getElem? (i := 1260) (by decide +kernel), List.mem_of_getElem? (i := 1261) (by decide +kernel)⟩
theorem lw_p69 : lw_okq (⟨"PowerBondsModel", "sum", "(I)Z"⟩, 35) := ⟨⟨by decide +kernel, by decide +kernel⟩, List.mem_of_getElem? (i := 891) (by decide +kernel), List.mem_of_getElem? (i := 1264) (by decide +kernel), List.mem_of_getElem? (i := 1265) (by decide +kernel)⟩
theorem lw_p70 : lw_okq (⟨"PowerBondsModel", "term", "(I)Z"⟩, 35) := ⟨⟨by decide +kernel, by decide +kernel⟩, List.mem_of_getElem? (i := 891) (by decide +kernel), List.mem_of_getElem? (i := 1268) (by decide +kernel), List.mem_of_getElem? (i := 1269) (by decide +kernel)⟩
theorem lw_p71 : lw_okq (⟨"PowerBondsModel", "part0", "(I)Z"⟩, 35) := ⟨⟨by decide +kernel, by decide +kernel⟩, List.mem_of_getElem? (i := 891) (by decide +kernel), List.mem_of_getElem? (i := 1272) (by decide +kernel), List.mem_of_getElem? (i := 1273) (by decide +kernel)⟩
theorem lw_p72 : lw_okq (⟨"PowerBondsModel", "step", "(II)V"⟩, 35) := ⟨⟨by decide +kernel, by decide +kernel⟩, List.mem_of_getElem? (i := 891) (by decide +kernel), List.mem_of_getElem? (i := 1276) (by decide +kernel), List.mem_of_getElem? (i := 1277) (by decide +kernel)⟩
theorem lw_p73 : lw_okq (⟨"PowerBondsModel", "isSign", "(I)Z"⟩, 35) := ⟨⟨by decide +kernel, by decide +kernel⟩, List.mem_of_getElem? (i := 891) (by decide +kernel), List.mem_of_getElem? (i := 1283) (by decide +kernel), List.mem_of_getElem? (i := 1284) (by decide +kernel)⟩
theorem lw_p74 : lw_okq (⟨"PowerBondsModel", "isText", "(I)Z"⟩, 35) := ⟨⟨by decide +kernel, by decide +kernel⟩, List.mem_of_getElem? (i := 891) (by decide +kernel), List.mem_of_getElem? (i := 1291) (by decide +kernel), List.mem_of_getElem? (i := 1292) (by decide +kernel)⟩
theorem lw_p75 : lw_okq (⟨"PowerBondsModel", "findWays", "(I)V"⟩, 35) := ⟨⟨by decide +kernel, by decide +kernel⟩, List.mem_of_getElem? (i := 891) (by decide +kernel), List.mem_of_getElem? (i := 1328) (by decide +kernel), List.mem_of_getElem? (i := 1329) (by decide +kernel)⟩
theorem lw_p76 : lw_okq (⟨"PowerBondsModel", "holds", "()I"⟩, 35) := ⟨⟨by decide +kernel, by decide +kernel⟩, List.mem_of_getElem? (i := 891) (by decide +kernel), List.mem_of_getElem? (i := 1387) (by decide +kernel), List.mem_of_getElem? (i := 1388) (by decide +kernel)⟩
theorem lw_p77 : lw_okq (⟨"PowerBondsModel", "stores", "()I"⟩, 35) := ⟨⟨by decide +kernel, by decide +kernel⟩, List.mem_of_getElem? (i := 891) (by decide +kernel), List.mem_of_getElem? (i := 1403) (by decide +kernel), List.mem_of_getElem? (i := 1404) (by decide +kernel)⟩
def lw_privs_5 : List (MethodName × Nat) := [(⟨"PowerBondsModel", "key", "()I"⟩, 35), (⟨"PowerBondsModel", "isWordAt", "(IIII)Z"⟩, 35), (⟨"PowerBondsModel", "either", "(I)Z"⟩, 35), (⟨"PowerBondsModel", "both", "(I)Z"⟩, 35), (⟨"PowerBondsModel", "test", "(I)Z"⟩, 35), (⟨"PowerBondsModel", "sum", "(I)Z"⟩, 35), (⟨"PowerBondsModel", "term", "(I)Z"⟩, 35), (⟨"PowerBondsModel", "part0", "(I)Z"⟩, 35), (⟨"PowerBondsModel", "step", "(II)V"⟩, 35), (⟨"PowerBondsModel", "isSign", "(I)Z"⟩, 35), (⟨"PowerBondsModel", "isText", "(I)Z"⟩, 35), (⟨"PowerBondsModel", "findWays", "(I)V"⟩, 35), (⟨"PowerBondsModel", "holds", "()I"⟩, 35), (⟨"PowerBondsModel", "stores", "()I"⟩, 35)]
theorem lw_r5 : ∀ q ∈ lw_privs_5, lw_okq q := List.forall_mem_cons.mpr ⟨lw_p64, List.forall_mem_cons.mpr ⟨lw_p65, List.forall_mem_cons.mpr ⟨lw_p66, List.forall_mem_cons.mpr ⟨lw_p67, List.forall_mem_cons.mpr ⟨lw_p68, List.forall_mem_cons.mpr ⟨lw_p69, List.forall_mem_cons.mpr ⟨lw_p70, List.forall_mem_cons.mpr ⟨lw_p71, List.forall_mem_cons.mpr ⟨lw_p72, List.forall_mem_cons.mpr ⟨lw_p73, List.forall_mem_cons.mpr ⟨lw_p74, List.forall_mem_cons.mpr ⟨lw_p75, List.forall_mem_cons.mpr ⟨lw_p76, List.forall_mem_cons.mpr ⟨lw_p77, fun _ h => absurd h List.not_mem_nil⟩⟩⟩⟩⟩⟩⟩⟩⟩⟩⟩⟩⟩⟩
def lw_privs : List (MethodName × Nat) := lw_privs_1 ++ (lw_privs_2 ++ (lw_privs_3 ++ (lw_privs_4 ++ (lw_privs_5))))
def lw_tbl : List Cond := k2_sels lw_privs ++ tables_1
theorem lw_privs_ok : ∀ q ∈ lw_privs, lw_okq q := by
  show ∀ q ∈ lw_privs_1 ++ (lw_privs_2 ++ (lw_privs_3 ++ (lw_privs_4 ++ (lw_privs_5)))), lw_okq q
  exact List.forall_mem_append.mpr ⟨lw_r1, List.forall_mem_append.mpr ⟨lw_r2, List.forall_mem_append.mpr ⟨lw_r3, List.forall_mem_append.mpr ⟨lw_r4, lw_r5⟩⟩⟩⟩
end
section
def RX0 : String := "PowerBonds$Answer"
def TX0 : u_T := fun k => match k with
  | 0 => ("PowerBonds$Answer", "push", "[I", true)
  | 1 => ("PowerBonds$Answer", "pace", "[I", true)
  | 2 => ("PowerBonds$Answer", "rows", "[[J", true)
  | 3 => ("PowerBonds$Answer", "rowCount", "I", false)
  | _ => ("PowerBonds$Answer", "width", "I", false)
def tyX0 : Nat → FieldType := fun k => match k with
  | 0 => .array .int
  | 1 => .array .int
  | 2 => .array (.array .long)
  | 3 => .int
  | _ => .int
theorem nmX0 : ∀ a, a < 5 → ∀ b, b < 5 → a ≠ b → (TX0 a).2.1 ≠ (TX0 b).2.1 := by decide +kernel
theorem tyX0_ok : ∀ k, k < 5 → parseFieldDescriptor (TX0 k).2.2.1 = some (tyX0 k) := by decide +kernel
def RX1 : String := "PowerBonds$LineUps"
def TX1 : u_T := fun k => match k with
  | 0 => ("PowerBonds$LineUps", "coming", "[I", true)
  | 1 => ("PowerBonds$LineUps", "going", "[I", true)
  | 2 => ("PowerBonds$LineUps", "possible", "I", false)
  | 3 => ("PowerBonds$LineUps", "best", "I", false)
  | _ => ("PowerBonds$LineUps", "bestSumming", "I", false)
def tyX1 : Nat → FieldType := fun k => match k with
  | 0 => .array .int
  | 1 => .array .int
  | 2 => .int
  | 3 => .int
  | _ => .int
theorem nmX1 : ∀ a, a < 5 → ∀ b, b < 5 → a ≠ b → (TX1 a).2.1 ≠ (TX1 b).2.1 := by decide +kernel
theorem tyX1_ok : ∀ k, k < 5 → parseFieldDescriptor (TX1 k).2.2.1 = some (tyX1 k) := by decide +kernel
def RX2 : String := "PowerBonds$Machine"
def TX2 : u_T := fun k => match k with
  | 0 => ("PowerBonds$Machine", "parts", "[LPowerBonds$Part;", true)
  | 1 => ("PowerBonds$Machine", "from", "[I", true)
  | 2 => ("PowerBonds$Machine", "to", "[I", true)
  | 3 => ("PowerBonds$Machine", "texts", "[LPowerBonds$Text;", true)
  | 4 => ("PowerBonds$Machine", "partCount", "I", false)
  | 5 => ("PowerBonds$Machine", "bondCount", "I", false)
  | 6 => ("PowerBonds$Machine", "textCount", "I", false)
  | _ => ("PowerBonds$Machine", "step", "I", false)
def tyX2 : Nat → FieldType := fun k => match k with
  | 0 => .array (.object "PowerBonds$Part")
  | 1 => .array .int
  | 2 => .array .int
  | 3 => .array (.object "PowerBonds$Text")
  | 4 => .int
  | 5 => .int
  | 6 => .int
  | _ => .int
theorem nmX2 : ∀ a, a < 8 → ∀ b, b < 8 → a ≠ b → (TX2 a).2.1 ≠ (TX2 b).2.1 := by decide +kernel
theorem tyX2_ok : ∀ k, k < 8 → parseFieldDescriptor (TX2 k).2.2.1 = some (tyX2 k) := by decide +kernel
def RX3 : String := "PowerBonds$Part"
def TX3 : u_T := fun k => match k with
  | 0 => ("PowerBonds$Part", "kind", "I", false)
  | 1 => ("PowerBonds$Part", "sort", "I", false)
  | 2 => ("PowerBonds$Part", "over", "I", false)
  | 3 => ("PowerBonds$Part", "under", "I", false)
  | _ => ("PowerBonds$Part", "hold", "I", false)
def tyX3 : Nat → FieldType := fun k => match k with
  | 0 => .int
  | 1 => .int
  | 2 => .int
  | 3 => .int
  | _ => .int
theorem nmX3 : ∀ a, a < 5 → ∀ b, b < 5 → a ≠ b → (TX3 a).2.1 ≠ (TX3 b).2.1 := by decide +kernel
theorem tyX3_ok : ∀ k, k < 5 → parseFieldDescriptor (TX3 k).2.2.1 = some (tyX3 k) := by decide +kernel
def RX4 : String := "PowerBonds$Sheet"
def TX4 : u_T := fun k => match k with
  | 0 => ("PowerBonds$Sheet", "sort", "I", false)
  | 1 => ("PowerBonds$Sheet", "size", "I", false)
  | _ => ("PowerBonds$Sheet", "places", "[I", true)
def tyX4 : Nat → FieldType := fun k => match k with
  | 0 => .int
  | 1 => .int
  | _ => .array .int
theorem nmX4 : ∀ a, a < 3 → ∀ b, b < 3 → a ≠ b → (TX4 a).2.1 ≠ (TX4 b).2.1 := by decide +kernel
theorem tyX4_ok : ∀ k, k < 3 → parseFieldDescriptor (TX4 k).2.2.1 = some (tyX4 k) := by decide +kernel
def RX5 : String := "PowerBonds$Slot"
def TX5 : u_T := fun k => match k with
  | 0 => ("PowerBonds$Slot", "thing", "I", false)
  | 1 => ("PowerBonds$Slot", "number", "I", false)
  | 2 => ("PowerBonds$Slot", "heldPart", "LPowerBonds$Part;", true)
  | _ => ("PowerBonds$Slot", "heldSheet", "LPowerBonds$Sheet;", true)
def tyX5 : Nat → FieldType := fun k => match k with
  | 0 => .int
  | 1 => .int
  | 2 => .object "PowerBonds$Part"
  | _ => .object "PowerBonds$Sheet"
theorem nmX5 : ∀ a, a < 4 → ∀ b, b < 4 → a ≠ b → (TX5 a).2.1 ≠ (TX5 b).2.1 := by decide +kernel
theorem tyX5_ok : ∀ k, k < 4 → parseFieldDescriptor (TX5 k).2.2.1 = some (tyX5 k) := by decide +kernel
def RX6 : String := "PowerBonds$Tape"
def TX6 : u_T := fun k => match k with
  | 0 => ("PowerBonds$Tape", "size", "I", false)
  | 1 => ("PowerBonds$Tape", "place", "I", false)
  | 2 => ("PowerBonds$Tape", "bytes", "[B", true)
  | 3 => ("PowerBonds$Tape", "behind", "I", false)
  | 4 => ("PowerBonds$Tape", "sort", "I", false)
  | 5 => ("PowerBonds$Tape", "key", "I", false)
  | 6 => ("PowerBonds$Tape", "code", "[I", true)
  | 7 => ("PowerBonds$Tape", "codeSize", "I", false)
  | _ => ("PowerBonds$Tape", "operands", "I", false)
def tyX6 : Nat → FieldType := fun k => match k with
  | 0 => .int
  | 1 => .int
  | 2 => .array .byte
  | 3 => .int
  | 4 => .int
  | 5 => .int
  | 6 => .array .int
  | 7 => .int
  | _ => .int
theorem nmX6 : ∀ a, a < 9 → ∀ b, b < 9 → a ≠ b → (TX6 a).2.1 ≠ (TX6 b).2.1 := by decide +kernel
theorem tyX6_ok : ∀ k, k < 9 → parseFieldDescriptor (TX6 k).2.2.1 = some (tyX6 k) := by decide +kernel
def RX7 : String := "PowerBonds$Text"
def TX7 : u_T := fun k => match k with
  | 0 => ("PowerBonds$Text", "key", "I", true)
  | 1 => ("PowerBonds$Text", "target", "I", true)
  | 2 => ("PowerBonds$Text", "operands", "I", true)
  | _ => ("PowerBonds$Text", "code", "[I", true)
def tyX7 : Nat → FieldType := fun k => match k with
  | 0 => .int
  | 1 => .int
  | 2 => .int
  | _ => .array .int
theorem nmX7 : ∀ a, a < 4 → ∀ b, b < 4 → a ≠ b → (TX7 a).2.1 ≠ (TX7 b).2.1 := by decide +kernel
theorem tyX7_ok : ∀ k, k < 4 → parseFieldDescriptor (TX7 k).2.2.1 = some (tyX7 k) := by decide +kernel
def RX8 : String := "PowerBonds"
def TX8 : u_T := fun k => match k with
  | 0 => ("PowerBonds", "machine", "LPowerBonds$Machine;", true)
  | 1 => ("PowerBonds", "image", "LPowerBonds$Machine;", true)
  | 2 => ("PowerBonds", "trial", "LPowerBonds$Machine;", true)
  | 3 => ("PowerBonds", "answer", "LPowerBonds$Answer;", true)
  | 4 => ("PowerBonds", "otherAnswer", "LPowerBonds$Answer;", true)
  | 5 => ("PowerBonds", "lineUps", "LPowerBonds$LineUps;", true)
  | 6 => ("PowerBonds", "tape", "LPowerBonds$Tape;", true)
  | 7 => ("PowerBonds", "desk", "[I", true)
  | 8 => ("PowerBonds", "waiting", "[I", true)
  | 9 => ("PowerBonds", "sheets", "[LPowerBonds$Sheet;", true)
  | 10 => ("PowerBonds", "slots", "[LPowerBonds$Slot;", true)
  | 11 => ("PowerBonds", "waitingCount", "I", false)
  | _ => ("PowerBonds", "imageKept", "Z", false)
def tyX8 : Nat → FieldType := fun k => match k with
  | 0 => .object "PowerBonds$Machine"
  | 1 => .object "PowerBonds$Machine"
  | 2 => .object "PowerBonds$Machine"
  | 3 => .object "PowerBonds$Answer"
  | 4 => .object "PowerBonds$Answer"
  | 5 => .object "PowerBonds$LineUps"
  | 6 => .object "PowerBonds$Tape"
  | 7 => .array .int
  | 8 => .array .int
  | 9 => .array (.object "PowerBonds$Sheet")
  | 10 => .array (.object "PowerBonds$Slot")
  | 11 => .int
  | _ => .boolean
theorem nmX8 : ∀ a, a < 13 → ∀ b, b < 13 → a ≠ b → (TX8 a).2.1 ≠ (TX8 b).2.1 := by decide +kernel
theorem tyX8_ok : ∀ k, k < 13 → parseFieldDescriptor (TX8 k).2.2.1 = some (tyX8 k) := by decide +kernel
def RX9 : String := "PowerBondsModel"
def TX9 : u_T := fun k => match k with
  | 0 => ("PowerBondsModel", "s", "[I", true)
  | 1 => ("PowerBondsModel", "image", "[I", true)
  | 2 => ("PowerBondsModel", "aside", "[I", true)
  | 3 => ("PowerBondsModel", "hasImage", "Z", false)
  | 4 => ("PowerBondsModel", "tSort", "[I", true)
  | 5 => ("PowerBondsModel", "tSize", "[I", true)
  | 6 => ("PowerBondsModel", "tNumber", "[I", true)
  | 7 => ("PowerBondsModel", "held", "[I", true)
  | 8 => ("PowerBondsModel", "heldNumber", "[I", true)
  | 9 => ("PowerBondsModel", "heldShare", "[I", true)
  | 10 => ("PowerBondsModel", "heldSize", "[I", true)
  | 11 => ("PowerBondsModel", "heldRow", "[I", true)
  | 12 => ("PowerBondsModel", "table", "[J", true)
  | 13 => ("PowerBondsModel", "lines", "I", false)
  | 14 => ("PowerBondsModel", "answer", "[J", true)
  | 15 => ("PowerBondsModel", "tape", "[I", true)
  | 16 => ("PowerBondsModel", "taped", "I", false)
  | 17 => ("PowerBondsModel", "begin", "I", false)
  | 18 => ("PowerBondsModel", "behind", "I", false)
  | 19 => ("PowerBondsModel", "token", "I", false)
  | 20 => ("PowerBondsModel", "number", "I", false)
  | 21 => ("PowerBondsModel", "letter", "I", false)
  | 22 => ("PowerBondsModel", "deep", "I", false)
  | 23 => ("PowerBondsModel", "turned", "I", false)
  | 24 => ("PowerBondsModel", "laid", "I", false)
  | 25 => ("PowerBondsModel", "laidAt", "I", false)
  | 26 => ("PowerBondsModel", "said", "I", false)
  | 27 => ("PowerBondsModel", "named", "[I", true)
  | 28 => ("PowerBondsModel", "pile", "[I", true)
  | 29 => ("PowerBondsModel", "wasAnswer", "[J", true)
  | 30 => ("PowerBondsModel", "steps", "[I", true)
  | 31 => ("PowerBondsModel", "carried", "[I", true)
  | 32 => ("PowerBondsModel", "waits", "[I", true)
  | 33 => ("PowerBondsModel", "waiting", "I", false)
  | _ => ("PowerBondsModel", "row", "[I", true)
def tyX9 : Nat → FieldType := fun k => match k with
  | 0 => .array .int
  | 1 => .array .int
  | 2 => .array .int
  | 3 => .boolean
  | 4 => .array .int
  | 5 => .array .int
  | 6 => .array .int
  | 7 => .array .int
  | 8 => .array .int
  | 9 => .array .int
  | 10 => .array .int
  | 11 => .array .int
  | 12 => .array .long
  | 13 => .int
  | 14 => .array .long
  | 15 => .array .int
  | 16 => .int
  | 17 => .int
  | 18 => .int
  | 19 => .int
  | 20 => .int
  | 21 => .int
  | 22 => .int
  | 23 => .int
  | 24 => .int
  | 25 => .int
  | 26 => .int
  | 27 => .array .int
  | 28 => .array .int
  | 29 => .array .long
  | 30 => .array .int
  | 31 => .array .int
  | 32 => .array .int
  | 33 => .int
  | _ => .array .int
theorem nmX9 : ∀ a, a < 35 → ∀ b, b < 35 → a ≠ b → (TX9 a).2.1 ≠ (TX9 b).2.1 := by decide +kernel
theorem tyX9_ok : ∀ k, k < 35 → parseFieldDescriptor (TX9 k).2.2.1 = some (tyX9 k) := by decide +kernel
/-- a method: its name, its code, its locals, its answer -/
abbrev Mt : Type := MethodName × ByteArray × Nat × Option FieldType
abbrev M_An_init : Mt := (⟨"PowerBonds$Answer", "<init>", "()V"⟩, prog_2_method_1_code, 1, none)
abbrev M_An_solve : Mt := (⟨"PowerBonds$Answer", "solve", "(LPowerBonds$Machine;)I"⟩, prog_2_method_2_code, 4, (some .int))
abbrev M_An_column : Mt := (⟨"PowerBonds$Answer", "column", "(II)I"⟩, prog_2_method_3_code, 2, (some .int))
abbrev M_An_writeLaws : Mt := (⟨"PowerBonds$Answer", "writeLaws", "(LPowerBonds$Machine;)V"⟩, prog_2_method_4_code, 5, none)
abbrev M_An_newRow : Mt := (⟨"PowerBonds$Answer", "newRow", "()[J"⟩, prog_2_method_5_code, 2, (some (.array .long)))
abbrev M_An_writeTimes : Mt := (⟨"PowerBonds$Answer", "writeTimes", "(III)V"⟩, prog_2_method_6_code, 5, none)
abbrev M_An_writeEnd : Mt := (⟨"PowerBonds$Answer", "writeEnd", "(LPowerBonds$Part;I)V"⟩, prog_2_method_7_code, 5, none)
abbrev M_An_writeTurn : Mt := (⟨"PowerBonds$Answer", "writeTurn", "(LPowerBonds$Part;II)V"⟩, prog_2_method_8_code, 5, none)
abbrev M_An_writeJoin : Mt := (⟨"PowerBonds$Answer", "writeJoin", "(LPowerBonds$Machine;II)V"⟩, prog_2_method_9_code, 8, none)
abbrev M_An_reduce : Mt := (⟨"PowerBonds$Answer", "reduce", "()I"⟩, prog_2_method_10_code, 5, (some .int))
abbrev M_An_rowWith : Mt := (⟨"PowerBonds$Answer", "rowWith", "(II)I"⟩, prog_2_method_11_code, 4, (some .int))
abbrev M_An_scale : Mt := (⟨"PowerBonds$Answer", "scale", "([JI)V"⟩, prog_2_method_12_code, 6, none)
abbrev M_An_clearOthers : Mt := (⟨"PowerBonds$Answer", "clearOthers", "(II)V"⟩, prog_2_method_13_code, 7, none)
abbrev M_Lu_init : Mt := (⟨"PowerBonds$LineUps", "<init>", "()V"⟩, prog_3_method_1_code, 1, none)
abbrev M_Lu_lookAt : Mt := (⟨"PowerBonds$LineUps", "lookAt", "(LPowerBonds$Machine;)V"⟩, prog_3_method_2_code, 3, none)
abbrev M_Lu_survey : Mt := (⟨"PowerBonds$LineUps", "survey", "(LPowerBonds$Machine;)V"⟩, prog_3_method_3_code, 6, none)
abbrev M_Lu_weigh : Mt := (⟨"PowerBonds$LineUps", "weigh", "(LPowerBonds$Machine;I)V"⟩, prog_3_method_4_code, 5, none)
abbrev M_Lu_nextWithout : Mt := (⟨"PowerBonds$LineUps", "nextWithout", "(II)I"⟩, prog_3_method_5_code, 5, (some .int))
abbrev M_Lu_firstAgainst : Mt := (⟨"PowerBonds$LineUps", "firstAgainst", "(LPowerBonds$Machine;I)I"⟩, prog_3_method_6_code, 4, (some .int))
abbrev M_Lu_allows : Mt := (⟨"PowerBonds$LineUps", "allows", "(LPowerBonds$Part;II)Z"⟩, prog_3_method_7_code, 6, (some .boolean))
abbrev M_Lu_settledBy : Mt := (⟨"PowerBonds$LineUps", "settledBy", "(II)I"⟩, prog_3_method_8_code, 3, (some .int))
abbrev M_Lu_sums : Mt := (⟨"PowerBonds$LineUps", "sums", "(LPowerBonds$Machine;II)Z"⟩, prog_3_method_9_code, 4, (some .boolean))
abbrev M_Lu_tiedStores : Mt := (⟨"PowerBonds$LineUps", "tiedStores", "(LPowerBonds$Machine;)I"⟩, prog_3_method_10_code, 4, (some .int))
abbrev M_Ma_init : Mt := (⟨"PowerBonds$Machine", "<init>", "()V"⟩, prog_4_method_1_code, 2, none)
abbrev M_Ma_takeFrom : Mt := (⟨"PowerBonds$Machine", "takeFrom", "(LPowerBonds$Machine;)V"⟩, prog_4_method_2_code, 3, none)
abbrev M_Ma_hasPart : Mt := (⟨"PowerBonds$Machine", "hasPart", "(I)Z"⟩, prog_4_method_3_code, 2, (some .boolean))
abbrev M_Ma_hasBond : Mt := (⟨"PowerBonds$Machine", "hasBond", "(I)Z"⟩, prog_4_method_4_code, 2, (some .boolean))
abbrev M_Ma_dropBond : Mt := (⟨"PowerBonds$Machine", "dropBond", "(I)V"⟩, prog_4_method_5_code, 3, none)
abbrev M_Ma_endsOf : Mt := (⟨"PowerBonds$Machine", "endsOf", "(I)I"⟩, prog_4_method_6_code, 4, (some .int))
abbrev M_Ma_nextBondOf : Mt := (⟨"PowerBonds$Machine", "nextBondOf", "(II)I"⟩, prog_4_method_7_code, 4, (some .int))
abbrev M_Ma_isWhole : Mt := (⟨"PowerBonds$Machine", "isWhole", "()Z"⟩, prog_4_method_8_code, 2, (some .boolean))
abbrev M_Ma_stores : Mt := (⟨"PowerBonds$Machine", "stores", "()I"⟩, prog_4_method_9_code, 3, (some .int))
abbrev M_Ma_storesTogether : Mt := (⟨"PowerBonds$Machine", "storesTogether", "()I"⟩, prog_4_method_10_code, 3, (some .int))
abbrev M_Ma_textFor : Mt := (⟨"PowerBonds$Machine", "textFor", "(II)I"⟩, prog_4_method_11_code, 4, (some .int))
abbrev M_Ma_textGives : Mt := (⟨"PowerBonds$Machine", "textGives", "(I[III)I"⟩, prog_4_method_12_code, 6, (some .int))
abbrev M_Ma_followText : Mt := (⟨"PowerBonds$Machine", "followText", "(I[I)V"⟩, prog_4_method_13_code, 4, none)
abbrev M_Ma_doStep : Mt := (⟨"PowerBonds$Machine", "doStep", "(LPowerBonds$Answer;[I)V"⟩, prog_4_method_14_code, 6, none)
abbrev M_Ma_withNeighbours : Mt := (⟨"PowerBonds$Machine", "withNeighbours", "(I)I"⟩, prog_4_method_15_code, 4, (some .int))
abbrev M_Ma_pieces : Mt := (⟨"PowerBonds$Machine", "pieces", "()I"⟩, prog_4_method_16_code, 5, (some .int))
abbrev M_Pa_init : Mt := (⟨"PowerBonds$Part", "<init>", "()V"⟩, prog_5_method_1_code, 1, none)
abbrev M_Pa_become : Mt := (⟨"PowerBonds$Part", "become", "(III)V"⟩, prog_5_method_2_code, 4, none)
abbrev M_Pa_takeShare : Mt := (⟨"PowerBonds$Part", "takeShare", "(I)V"⟩, prog_5_method_3_code, 2, none)
abbrev M_Pa_takeFrom : Mt := (⟨"PowerBonds$Part", "takeFrom", "(LPowerBonds$Part;)V"⟩, prog_5_method_4_code, 2, none)
abbrev M_Pa_shareCode : Mt := (⟨"PowerBonds$Part", "shareCode", "()I"⟩, prog_5_method_5_code, 1, (some .int))
abbrev M_Pa_shareWorth : Mt := (⟨"PowerBonds$Part", "shareWorth", "()I"⟩, prog_5_method_6_code, 1, (some .int))
abbrev M_Pa_isOf : Mt := (⟨"PowerBonds$Part", "isOf", "(I)Z"⟩, prog_5_method_7_code, 4, (some .boolean))
abbrev M_Pa_wants : Mt := (⟨"PowerBonds$Part", "wants", "(I)Z"⟩, prog_5_method_8_code, 2, (some .boolean))
abbrev M_Pa_turnToDual : Mt := (⟨"PowerBonds$Part", "turnToDual", "()Z"⟩, prog_5_method_9_code, 2, (some .boolean))
abbrev M_Sh_init : Mt := (⟨"PowerBonds$Sheet", "<init>", "()V"⟩, prog_6_method_1_code, 1, none)
abbrev M_Sh_become : Mt := (⟨"PowerBonds$Sheet", "become", "(II)V"⟩, prog_6_method_2_code, 3, none)
abbrev M_Sh_takeFrom : Mt := (⟨"PowerBonds$Sheet", "takeFrom", "(LPowerBonds$Sheet;)V"⟩, prog_6_method_3_code, 2, none)
abbrev M_Sh_hasPlace : Mt := (⟨"PowerBonds$Sheet", "hasPlace", "(I)Z"⟩, prog_6_method_4_code, 2, (some .boolean))
abbrev M_Sh_hasRow : Mt := (⟨"PowerBonds$Sheet", "hasRow", "(II)Z"⟩, prog_6_method_5_code, 3, (some .boolean))
abbrev M_Sl_init : Mt := (⟨"PowerBonds$Slot", "<init>", "()V"⟩, prog_7_method_1_code, 1, none)
abbrev M_Sl_refusalFor : Mt := (⟨"PowerBonds$Slot", "refusalFor", "(I)I"⟩, prog_7_method_2_code, 2, (some .int))
abbrev M_Ta_init : Mt := (⟨"PowerBonds$Tape", "<init>", "()V"⟩, prog_8_method_1_code, 1, none)
abbrev M_Ta_putBytes : Mt := (⟨"PowerBonds$Tape", "putBytes", "(I)V"⟩, prog_8_method_2_code, 3, none)
abbrev M_Ta_parse : Mt := (⟨"PowerBonds$Tape", "parse", "()LPowerBonds$Text;"⟩, prog_8_method_3_code, 2, (some (.object "PowerBonds$Text")))
abbrev M_Ta_goOn : Mt := (⟨"PowerBonds$Tape", "goOn", "()V"⟩, prog_8_method_4_code, 3, none)
abbrev M_Ta_sortAt : Mt := (⟨"PowerBonds$Tape", "sortAt", "(I)I"⟩, prog_8_method_5_code, 2, (some .int))
abbrev M_Ta_keyHere : Mt := (⟨"PowerBonds$Tape", "keyHere", "()I"⟩, prog_8_method_6_code, 1, (some .int))
abbrev M_Ta_isWord : Mt := (⟨"PowerBonds$Tape", "isWord", "(Ljava/lang/String;)Z"⟩, prog_8_method_7_code, 3, (some .boolean))
abbrev M_Ta_numberHere : Mt := (⟨"PowerBonds$Tape", "numberHere", "()I"⟩, prog_8_method_8_code, 3, (some .int))
abbrev M_Ta_isName : Mt := (⟨"PowerBonds$Tape", "isName", "()Z"⟩, prog_8_method_9_code, 2, (some .boolean))
abbrev M_Ta_isSign : Mt := (⟨"PowerBonds$Tape", "isSign", "(I)Z"⟩, prog_8_method_10_code, 2, (some .boolean))
abbrev M_Ta_joinsAt : Mt := (⟨"PowerBonds$Tape", "joinsAt", "(I)Z"⟩, prog_8_method_11_code, 2, (some .boolean))
abbrev M_Ta_put : Mt := (⟨"PowerBonds$Tape", "put", "(I)V"⟩, prog_8_method_12_code, 2, none)
abbrev M_Ta_readLevel : Mt := (⟨"PowerBonds$Tape", "readLevel", "(III)Z"⟩, prog_8_method_13_code, 8, (some .boolean))
abbrev M_Ta_readPiece : Mt := (⟨"PowerBonds$Tape", "readPiece", "(II)Z"⟩, prog_8_method_14_code, 4, (some .boolean))
abbrev M_Ta_readOperand : Mt := (⟨"PowerBonds$Tape", "readOperand", "()Z"⟩, prog_8_method_15_code, 2, (some .boolean))
abbrev M_Tx_init : Mt := (⟨"PowerBonds$Text", "<init>", "(III[I)V"⟩, prog_9_method_1_code, 5, none)
abbrev M_Tx_workOut : Mt := (⟨"PowerBonds$Text", "workOut", "([IIII)I"⟩, prog_9_method_2_code, 8, (some .int))
abbrev M_Tx_isOperand : Mt := (⟨"PowerBonds$Text", "isOperand", "(I)Z"⟩, prog_9_method_3_code, 1, (some .boolean))
abbrev M_Tx_valueOf : Mt := (⟨"PowerBonds$Text", "valueOf", "(IIII)I"⟩, prog_9_method_4_code, 4, (some .int))
abbrev M_Tx_join : Mt := (⟨"PowerBonds$Text", "join", "(III)I"⟩, prog_9_method_5_code, 3, (some .int))
abbrev M_Tx_truth : Mt := (⟨"PowerBonds$Text", "truth", "(Z)I"⟩, prog_9_method_6_code, 1, (some .int))
abbrev M_Pb_init : Mt := (⟨"PowerBonds", "<init>", "()V"⟩, prog_1_method_1_code, 2, none)
abbrev M_Pb_part : Mt := (⟨"PowerBonds", "part", "(III)I"⟩, prog_1_method_2_code, 4, (some .int))
abbrev M_Pb_told : Mt := (⟨"PowerBonds", "told", "(II)I"⟩, prog_1_method_3_code, 4, (some .int))
abbrev M_Pb_as : Mt := (⟨"PowerBonds", "as", "(II)I"⟩, prog_1_method_4_code, 4, (some .int))
abbrev M_Pb_set : Mt := (⟨"PowerBonds", "set", "(III)I"⟩, prog_1_method_5_code, 6, (some .int))
abbrev M_Pb_bond : Mt := (⟨"PowerBonds", "bond", "(II)I"⟩, prog_1_method_6_code, 3, (some .int))
abbrev M_Pb_breaks : Mt := (⟨"PowerBonds", "breaks", "(I)I"⟩, prog_1_method_7_code, 2, (some .int))
abbrev M_Pb_of : Mt := (⟨"PowerBonds", "of", "(II)I"⟩, prog_1_method_8_code, 3, (some .int))
abbrev M_Pb_whole : Mt := (⟨"PowerBonds", "whole", "()I"⟩, prog_1_method_9_code, 1, (some .int))
abbrev M_Pb_answers : Mt := (⟨"PowerBonds", "answers", "()I"⟩, prog_1_method_10_code, 1, (some .int))
abbrev M_Pb_strokes : Mt := (⟨"PowerBonds", "strokes", "(I)I"⟩, prog_1_method_11_code, 2, (some .int))
abbrev M_Pb_can : Mt := (⟨"PowerBonds", "can", "(I)I"⟩, prog_1_method_12_code, 2, (some .int))
abbrev M_Pb_run : Mt := (⟨"PowerBonds", "run", "(I)I"⟩, prog_1_method_13_code, 4, (some .int))
abbrev M_Pb_feed : Mt := (⟨"PowerBonds", "feed", "(III)I"⟩, prog_1_method_14_code, 4, (some .int))
abbrev M_Pb_trim : Mt := (⟨"PowerBonds", "trim", "(I)I"⟩, prog_1_method_15_code, 2, (some .int))
abbrev M_Pb_text : Mt := (⟨"PowerBonds", "text", "()I"⟩, prog_1_method_16_code, 2, (some .int))
abbrev M_Pb_textTold : Mt := (⟨"PowerBonds", "textTold", "(II)I"⟩, prog_1_method_17_code, 4, (some .int))
abbrev M_Pb_why : Mt := (⟨"PowerBonds", "why", "(II)I"⟩, prog_1_method_18_code, 6, (some .int))
abbrev M_Pb_read : Mt := (⟨"PowerBonds", "read", "(I)I"⟩, prog_1_method_19_code, 4, (some .int))
abbrev M_Pb_moves : Mt := (⟨"PowerBonds", "moves", "(III)I"⟩, prog_1_method_20_code, 5, (some .int))
abbrev M_Pb_signs : Mt := (⟨"PowerBonds", "signs", "(I)I"⟩, prog_1_method_21_code, 2, (some .int))
abbrev M_Pb_apart : Mt := (⟨"PowerBonds", "apart", "(II)I"⟩, prog_1_method_22_code, 5, (some .int))
abbrev M_Pb_dual : Mt := (⟨"PowerBonds", "dual", "()I"⟩, prog_1_method_23_code, 3, (some .int))
abbrev M_Pb_rings : Mt := (⟨"PowerBonds", "rings", "()I"⟩, prog_1_method_24_code, 1, (some .int))
abbrev M_Pb_way : Mt := (⟨"PowerBonds", "way", "(II)I"⟩, prog_1_method_25_code, 5, (some .int))
abbrev M_Pb_worth : Mt := (⟨"PowerBonds", "worth", "(III)I"⟩, prog_1_method_26_code, 5, (some .int))
abbrev M_Pb_sheet : Mt := (⟨"PowerBonds", "sheet", "(III)I"⟩, prog_1_method_27_code, 5, (some .int))
abbrev M_Pb_mark : Mt := (⟨"PowerBonds", "mark", "(III)I"⟩, prog_1_method_28_code, 6, (some .int))
abbrev M_Pb_pour : Mt := (⟨"PowerBonds", "pour", "(I)I"⟩, prog_1_method_29_code, 5, (some .int))
abbrev M_Pb_copy : Mt := (⟨"PowerBonds", "copy", "(IIIII)I"⟩, prog_1_method_30_code, 8, (some .int))
abbrev M_Pb_lay : Mt := (⟨"PowerBonds", "lay", "(III)I"⟩, prog_1_method_31_code, 6, (some .int))
abbrev M_Pb_ask : Mt := (⟨"PowerBonds", "ask", "(II)I"⟩, prog_1_method_32_code, 5, (some .int))
abbrev M_Pb_item : Mt := (⟨"PowerBonds", "item", "(II)I"⟩, prog_1_method_33_code, 5, (some .int))
abbrev M_Pb_rest : Mt := (⟨"PowerBonds", "rest", "(II)I"⟩, prog_1_method_34_code, 4, (some .int))
abbrev M_Pb_tell : Mt := (⟨"PowerBonds", "tell", "(I)I"⟩, prog_1_method_35_code, 2, (some .int))
abbrev M_Pb_check : Mt := (⟨"PowerBonds", "check", "(I)I"⟩, prog_1_method_36_code, 5, (some .int))
abbrev M_Pb_keep : Mt := (⟨"PowerBonds", "keep", "()I"⟩, prog_1_method_37_code, 1, (some .int))
abbrev M_Pb_back : Mt := (⟨"PowerBonds", "back", "()I"⟩, prog_1_method_38_code, 1, (some .int))
abbrev M_Pb_count : Mt := (⟨"PowerBonds", "count", "(I)I"⟩, prog_1_method_39_code, 2, (some .int))
abbrev M_Pb_settlerOf : Mt := (⟨"PowerBonds", "settlerOf", "(I)I"⟩, prog_1_method_40_code, 2, (some .int))
abbrev M_Pb_carriedBy : Mt := (⟨"PowerBonds", "carriedBy", "(II)I"⟩, prog_1_method_41_code, 4, (some .int))
abbrev M_Pb_signsOf : Mt := (⟨"PowerBonds", "signsOf", "(I)I"⟩, prog_1_method_42_code, 5, (some .int))
abbrev M_Pb_isKind : Mt := (⟨"PowerBonds", "isKind", "(I)Z"⟩, prog_1_method_43_code, 1, (some .boolean))
abbrev M_Pb_isShare : Mt := (⟨"PowerBonds", "isShare", "(I)Z"⟩, prog_1_method_44_code, 1, (some .boolean))
abbrev M_Pb_isSheet : Mt := (⟨"PowerBonds", "isSheet", "(I)Z"⟩, prog_1_method_45_code, 1, (some .boolean))
abbrev M_Pb_isSlot : Mt := (⟨"PowerBonds", "isSlot", "(I)Z"⟩, prog_1_method_46_code, 1, (some .boolean))
abbrev M_Pb_worthOf : Mt := (⟨"PowerBonds", "worthOf", "(I)I"⟩, prog_1_method_47_code, 1, (some .int))
abbrev M_Pb_product : Mt := (⟨"PowerBonds", "product", "(JJ)I"⟩, prog_1_method_48_code, 4, (some .int))
abbrev M_Pb_inverse : Mt := (⟨"PowerBonds", "inverse", "(J)J"⟩, prog_1_method_49_code, 7, (some .long))
abbrev M_Mo_init : Mt := (⟨"PowerBondsModel", "<init>", "()V"⟩, prog_11_method_1_code, 2, none)
abbrev M_Mo_isIn : Mt := (⟨"PowerBondsModel", "isIn", "(JJJ)Z"⟩, prog_11_method_2_code, 6, (some .boolean))
abbrev M_Mo_orNone : Mt := (⟨"PowerBondsModel", "orNone", "(I)I"⟩, prog_11_method_3_code, 1, (some .int))
abbrev M_Mo_becomes : Mt := (⟨"PowerBondsModel", "becomes", "(II)I"⟩, prog_11_method_4_code, 4, (some .int))
abbrev M_Mo_partAt : Mt := (⟨"PowerBondsModel", "partAt", "(I)I"⟩, prog_11_method_5_code, 2, (some .int))
abbrev M_Mo_textAt : Mt := (⟨"PowerBondsModel", "textAt", "(I)I"⟩, prog_11_method_6_code, 2, (some .int))
abbrev M_Mo_isPart : Mt := (⟨"PowerBondsModel", "isPart", "(I)Z"⟩, prog_11_method_7_code, 2, (some .boolean))
abbrev M_Mo_isBond : Mt := (⟨"PowerBondsModel", "isBond", "(I)Z"⟩, prog_11_method_8_code, 2, (some .boolean))
abbrev M_Mo_isText : Mt := (⟨"PowerBondsModel", "isText", "(I)Z"⟩, prog_11_method_9_code, 2, (some .boolean))
abbrev M_Mo_kindOf : Mt := (⟨"PowerBondsModel", "kindOf", "(I)I"⟩, prog_11_method_10_code, 2, (some .int))
abbrev M_Mo_sortOf : Mt := (⟨"PowerBondsModel", "sortOf", "(I)I"⟩, prog_11_method_11_code, 2, (some .int))
abbrev M_Mo_worthOf : Mt := (⟨"PowerBondsModel", "worthOf", "(J)J"⟩, prog_11_method_12_code, 4, (some .long))
abbrev M_Mo_over : Mt := (⟨"PowerBondsModel", "over", "(J)J"⟩, prog_11_method_13_code, 8, (some .long))
abbrev M_Mo_worth : Mt := (⟨"PowerBondsModel", "worth", "(III)I"⟩, prog_11_method_14_code, 4, (some .int))
abbrev M_Mo_isShare : Mt := (⟨"PowerBondsModel", "isShare", "(I)Z"⟩, prog_11_method_15_code, 1, (some .boolean))
abbrev M_Mo_shareOf : Mt := (⟨"PowerBondsModel", "shareOf", "(II)J"⟩, prog_11_method_16_code, 2, (some .long))
abbrev M_Mo_part : Mt := (⟨"PowerBondsModel", "part", "(III)I"⟩, prog_11_method_17_code, 5, (some .int))
abbrev M_Mo_comes : Mt := (⟨"PowerBondsModel", "comes", "(II)I"⟩, prog_11_method_18_code, 3, (some .int))
abbrev M_Mo_endsOf : Mt := (⟨"PowerBondsModel", "endsOf", "(I)I"⟩, prog_11_method_19_code, 4, (some .int))
abbrev M_Mo_hasEnds : Mt := (⟨"PowerBondsModel", "hasEnds", "(I)Z"⟩, prog_11_method_20_code, 4, (some .boolean))
abbrev M_Mo_isWhole : Mt := (⟨"PowerBondsModel", "isWhole", "()Z"⟩, prog_11_method_21_code, 3, (some .boolean))
abbrev M_Mo_told : Mt := (⟨"PowerBondsModel", "told", "(II)I"⟩, prog_11_method_22_code, 4, (some .int))
abbrev M_Mo_isOf : Mt := (⟨"PowerBondsModel", "isOf", "(II)Z"⟩, prog_11_method_23_code, 2, (some .boolean))
abbrev M_Mo_as : Mt := (⟨"PowerBondsModel", "as", "(II)I"⟩, prog_11_method_24_code, 3, (some .int))
abbrev M_Mo_set : Mt := (⟨"PowerBondsModel", "set", "(III)I"⟩, prog_11_method_25_code, 6, (some .int))
abbrev M_Mo_bond : Mt := (⟨"PowerBondsModel", "bond", "(II)I"⟩, prog_11_method_26_code, 3, (some .int))
abbrev M_Mo_breaks : Mt := (⟨"PowerBondsModel", "breaks", "(I)I"⟩, prog_11_method_27_code, 3, (some .int))
abbrev M_Mo_whole : Mt := (⟨"PowerBondsModel", "whole", "()I"⟩, prog_11_method_28_code, 1, (some .int))
abbrev M_Mo_line : Mt := (⟨"PowerBondsModel", "line", "()V"⟩, prog_11_method_29_code, 2, none)
abbrev M_Mo_put : Mt := (⟨"PowerBondsModel", "put", "(IIJ)V"⟩, prog_11_method_30_code, 6, none)
abbrev M_Mo_comesTo : Mt := (⟨"PowerBondsModel", "comesTo", "(J)V"⟩, prog_11_method_31_code, 3, none)
abbrev M_Mo_bondOf : Mt := (⟨"PowerBondsModel", "bondOf", "(II)I"⟩, prog_11_method_32_code, 4, (some .int))
abbrev M_Mo_lawsOfTurn : Mt := (⟨"PowerBondsModel", "lawsOfTurn", "(IJ)V"⟩, prog_11_method_33_code, 7, none)
abbrev M_Mo_lawsOfJoin : Mt := (⟨"PowerBondsModel", "lawsOfJoin", "(I)V"⟩, prog_11_method_34_code, 5, none)
abbrev M_Mo_lawsOf : Mt := (⟨"PowerBondsModel", "lawsOf", "(I)V"⟩, prog_11_method_35_code, 8, none)
abbrev M_Mo_swap : Mt := (⟨"PowerBondsModel", "swap", "(II)V"⟩, prog_11_method_36_code, 6, none)
abbrev M_Mo_solve : Mt := (⟨"PowerBondsModel", "solve", "()I"⟩, prog_11_method_37_code, 11, (some .int))
abbrev M_Mo_answers : Mt := (⟨"PowerBondsModel", "answers", "()I"⟩, prog_11_method_38_code, 1, (some .int))
abbrev M_Mo_of : Mt := (⟨"PowerBondsModel", "of", "(II)I"⟩, prog_11_method_39_code, 4, (some .int))
abbrev M_Mo_settles : Mt := (⟨"PowerBondsModel", "settles", "(II)I"⟩, prog_11_method_40_code, 5, (some .int))
abbrev M_Mo_canBe : Mt := (⟨"PowerBondsModel", "canBe", "(I)Z"⟩, prog_11_method_41_code, 6, (some .boolean))
abbrev M_Mo_sums : Mt := (⟨"PowerBondsModel", "sums", "(II)Z"⟩, prog_11_method_42_code, 3, (some .boolean))
abbrev M_Mo_summing : Mt := (⟨"PowerBondsModel", "summing", "(I)I"⟩, prog_11_method_43_code, 4, (some .int))
abbrev M_Mo_tied : Mt := (⟨"PowerBondsModel", "tied", "(I)I"⟩, prog_11_method_44_code, 4, (some .int))
abbrev M_Mo_strokes : Mt := (⟨"PowerBondsModel", "strokes", "(I)I"⟩, prog_11_method_45_code, 5, (some .int))
abbrev M_Mo_can : Mt := (⟨"PowerBondsModel", "can", "(I)I"⟩, prog_11_method_46_code, 2, (some .int))
abbrev M_Mo_counts : Mt := (⟨"PowerBondsModel", "counts", "(I)I"⟩, prog_11_method_47_code, 4, (some .int))
abbrev M_Mo_gives : Mt := (⟨"PowerBondsModel", "gives", "(I)V"⟩, prog_11_method_48_code, 3, none)
abbrev M_Mo_oneStep : Mt := (⟨"PowerBondsModel", "oneStep", "()I"⟩, prog_11_method_49_code, 5, (some .int))
abbrev M_Mo_setAside : Mt := (⟨"PowerBondsModel", "setAside", "([I[I)V"⟩, prog_11_method_50_code, 4, none)
abbrev M_Mo_run : Mt := (⟨"PowerBondsModel", "run", "(I)I"⟩, prog_11_method_51_code, 4, (some .int))
abbrev M_Mo_feed : Mt := (⟨"PowerBondsModel", "feed", "(III)I"⟩, prog_11_method_52_code, 6, (some .int))
abbrev M_Mo_trim : Mt := (⟨"PowerBondsModel", "trim", "(I)I"⟩, prog_11_method_53_code, 2, (some .int))
abbrev M_Mo_isLetter : Mt := (⟨"PowerBondsModel", "isLetter", "(I)Z"⟩, prog_11_method_54_code, 2, (some .boolean))
abbrev M_Mo_isDigit : Mt := (⟨"PowerBondsModel", "isDigit", "(I)Z"⟩, prog_11_method_55_code, 2, (some .boolean))
abbrev M_Mo_next : Mt := (⟨"PowerBondsModel", "next", "()V"⟩, prog_11_method_56_code, 3, none)
abbrev M_Mo_isSign : Mt := (⟨"PowerBondsModel", "isSign", "(I)Z"⟩, prog_11_method_57_code, 2, (some .boolean))
abbrev M_Mo_isWordAt : Mt := (⟨"PowerBondsModel", "isWordAt", "(IIII)Z"⟩, prog_11_method_58_code, 5, (some .boolean))
abbrev M_Mo_key : Mt := (⟨"PowerBondsModel", "key", "()I"⟩, prog_11_method_59_code, 2, (some .int))
abbrev M_Mo_isName : Mt := (⟨"PowerBondsModel", "isName", "(II)Z"⟩, prog_11_method_60_code, 2, (some .boolean))
abbrev M_Mo_step : Mt := (⟨"PowerBondsModel", "step", "(II)V"⟩, prog_11_method_61_code, 3, none)
abbrev M_Mo_either : Mt := (⟨"PowerBondsModel", "either", "(I)Z"⟩, prog_11_method_62_code, 2, (some .boolean))
abbrev M_Mo_both : Mt := (⟨"PowerBondsModel", "both", "(I)Z"⟩, prog_11_method_63_code, 2, (some .boolean))
abbrev M_Mo_test : Mt := (⟨"PowerBondsModel", "test", "(I)Z"⟩, prog_11_method_64_code, 3, (some .boolean))
abbrev M_Mo_sum : Mt := (⟨"PowerBondsModel", "sum", "(I)Z"⟩, prog_11_method_65_code, 3, (some .boolean))
abbrev M_Mo_term : Mt := (⟨"PowerBondsModel", "term", "(I)Z"⟩, prog_11_method_66_code, 3, (some .boolean))
abbrev M_Mo_part0 : Mt := (⟨"PowerBondsModel", "part0", "(I)Z"⟩, prog_11_method_67_code, 2, (some .boolean))
abbrev M_Mo_parse : Mt := (⟨"PowerBondsModel", "parse", "()I"⟩, prog_11_method_68_code, 3, (some .int))
abbrev M_Mo_text : Mt := (⟨"PowerBondsModel", "text", "()I"⟩, prog_11_method_69_code, 3, (some .int))
abbrev M_Mo_textTold : Mt := (⟨"PowerBondsModel", "textTold", "(II)I"⟩, prog_11_method_70_code, 4, (some .int))
abbrev M_Mo_why : Mt := (⟨"PowerBondsModel", "why", "(II)I"⟩, prog_11_method_71_code, 3, (some .int))
abbrev M_Mo_joined : Mt := (⟨"PowerBondsModel", "joined", "(III)I"⟩, prog_11_method_72_code, 3, (some .int))
abbrev M_Mo_worked : Mt := (⟨"PowerBondsModel", "worked", "(I)I"⟩, prog_11_method_73_code, 6, (some .int))
abbrev M_Mo_read : Mt := (⟨"PowerBondsModel", "read", "(I)I"⟩, prog_11_method_74_code, 4, (some .int))
abbrev M_Mo_moves : Mt := (⟨"PowerBondsModel", "moves", "(III)I"⟩, prog_11_method_75_code, 5, (some .int))
abbrev M_Mo_signs : Mt := (⟨"PowerBondsModel", "signs", "(I)I"⟩, prog_11_method_76_code, 5, (some .int))
abbrev M_Mo_apart : Mt := (⟨"PowerBondsModel", "apart", "(II)I"⟩, prog_11_method_77_code, 5, (some .int))
abbrev M_Mo_dual : Mt := (⟨"PowerBondsModel", "dual", "()I"⟩, prog_11_method_78_code, 4, (some .int))
abbrev M_Mo_findWays : Mt := (⟨"PowerBondsModel", "findWays", "(I)V"⟩, prog_11_method_79_code, 6, none)
abbrev M_Mo_rings : Mt := (⟨"PowerBondsModel", "rings", "()I"⟩, prog_11_method_80_code, 5, (some .int))
abbrev M_Mo_way : Mt := (⟨"PowerBondsModel", "way", "(II)I"⟩, prog_11_method_81_code, 3, (some .int))
abbrev M_Mo_isSheet : Mt := (⟨"PowerBondsModel", "isSheet", "(I)Z"⟩, prog_11_method_82_code, 1, (some .boolean))
abbrev M_Mo_sheet : Mt := (⟨"PowerBondsModel", "sheet", "(III)I"⟩, prog_11_method_83_code, 5, (some .int))
abbrev M_Mo_mark : Mt := (⟨"PowerBondsModel", "mark", "(III)I"⟩, prog_11_method_84_code, 5, (some .int))
abbrev M_Mo_pour : Mt := (⟨"PowerBondsModel", "pour", "(I)I"⟩, prog_11_method_85_code, 4, (some .int))
abbrev M_Mo_copy : Mt := (⟨"PowerBondsModel", "copy", "(IIIII)I"⟩, prog_11_method_86_code, 7, (some .int))
abbrev M_Mo_isSlot : Mt := (⟨"PowerBondsModel", "isSlot", "(I)Z"⟩, prog_11_method_87_code, 1, (some .boolean))
abbrev M_Mo_lay : Mt := (⟨"PowerBondsModel", "lay", "(III)I"⟩, prog_11_method_88_code, 7, (some .int))
abbrev M_Mo_ask : Mt := (⟨"PowerBondsModel", "ask", "(II)I"⟩, prog_11_method_89_code, 3, (some .int))
abbrev M_Mo_item : Mt := (⟨"PowerBondsModel", "item", "(II)I"⟩, prog_11_method_90_code, 3, (some .int))
abbrev M_Mo_rest : Mt := (⟨"PowerBondsModel", "rest", "(II)I"⟩, prog_11_method_91_code, 3, (some .int))
abbrev M_Mo_tell : Mt := (⟨"PowerBondsModel", "tell", "(I)I"⟩, prog_11_method_92_code, 2, (some .int))
abbrev M_Mo_holds : Mt := (⟨"PowerBondsModel", "holds", "()I"⟩, prog_11_method_93_code, 4, (some .int))
abbrev M_Mo_check : Mt := (⟨"PowerBondsModel", "check", "(I)I"⟩, prog_11_method_94_code, 5, (some .int))
abbrev M_Mo_keep : Mt := (⟨"PowerBondsModel", "keep", "()I"⟩, prog_11_method_95_code, 1, (some .int))
abbrev M_Mo_back : Mt := (⟨"PowerBondsModel", "back", "()I"⟩, prog_11_method_96_code, 1, (some .int))
abbrev M_Mo_stores : Mt := (⟨"PowerBondsModel", "stores", "()I"⟩, prog_11_method_97_code, 3, (some .int))
abbrev M_Mo_count : Mt := (⟨"PowerBondsModel", "count", "(I)I"⟩, prog_11_method_98_code, 2, (some .int))
abbrev M_Ji_bitCount : Mt := (⟨"java/lang/Integer", "bitCount", "(I)I"⟩, prog_13_method_49_code, 1, (some .int))
abbrev M_Jm_floorMod : Mt := (⟨"java/lang/Math", "floorMod", "(II)I"⟩, prog_14_method_50_code, 3, (some .int))
abbrev M_Jm_min : Mt := (⟨"java/lang/Math", "min", "(II)I"⟩, prog_14_method_69_code, 2, (some .int))
abbrev M_Js_length : Mt := (⟨"java/lang/String", "length", "()I"⟩, prog_15_method_54_code, 1, (some .int))
abbrev M_Js_charAt : Mt := (⟨"java/lang/String", "charAt", "(I)C"⟩, prog_15_method_56_code, 2, (some .char))
abbrev M_Js_coder : Mt := (⟨"java/lang/String", "coder", "()B"⟩, prog_15_method_152_code, 1, (some .byte))
abbrev M_Js_isLatin1 : Mt := (⟨"java/lang/String", "isLatin1", "()Z"⟩, prog_15_method_154_code, 1, (some .boolean))
abbrev M_Js_checkIndex : Mt := (⟨"java/lang/String", "checkIndex", "(II)V"⟩, prog_15_method_155_code, 2, none)
abbrev M_Jl_charAt : Mt := (⟨"java/lang/StringLatin1", "charAt", "([BI)C"⟩, prog_16_method_2_code, 2, (some .char))
abbrev M_Ju_getChar : Mt := (⟨"java/lang/StringUTF16", "getChar", "([BI)C"⟩, prog_17_method_5_code, 2, (some .char))
abbrev M_Ju_length : Mt := (⟨"java/lang/StringUTF16", "length", "([B)I"⟩, prog_17_method_6_code, 1, (some .int))
abbrev M_Ju_charAt : Mt := (⟨"java/lang/StringUTF16", "charAt", "([BI)C"⟩, prog_17_method_83_code, 2, (some .char))
abbrev M_Ju_checkIndex : Mt := (⟨"java/lang/StringUTF16", "checkIndex", "(I[B)V"⟩, prog_17_method_91_code, 2, none)
abbrev M_Ja_fillJ : Mt := (⟨"java/util/Arrays", "fill", "([JJ)V"⟩, prog_19_method_101_code, 5, none)
abbrev M_Ja_fill : Mt := (⟨"java/util/Arrays", "fill", "([II)V"⟩, prog_19_method_103_code, 4, none)
abbrev M_Ja_copyOf : Mt := (⟨"java/util/Arrays", "copyOf", "([II)[I"⟩, prog_19_method_123_code, 3, (some (.array .int)))
abbrev M_Jp_checkIndex : Mt := (⟨"jdk/internal/util/Preconditions", "checkIndex", "(IILjava/util/function/BiFunction;)I"⟩, prog_20_method_11_code, 3, (some .int))
abbrev M_Lw_law : Mt := (x, code, maxLocals, ret)
/-- an instruction at its place, and the place behind it -/
abbrev Dc (M : Mt) (pc : Nat) (i : Instr) (n pc2 : Nat) : Prop := decode M.2.1 pc = .ok (i, n) ∧ pc + n = pc2
end
section
/-! ===== abstract values: ints, longs, references as (tag, number) ===== -/
abbrev AV : Type := Int32 ⊕ (Int64 ⊕ Option (Nat × Nat))
abbrev vi (x : Int32) : AV := .inl x
abbrev vl (x : Int64) : AV := .inr (.inl x)
abbrev vn : AV := .inr (.inr none)
abbrev vr (t i : Nat) : AV := .inr (.inr (some (t, i)))
abbrev vo (r : Option (Nat × Nat)) : AV := .inr (.inr r)
/-- which object the k-th new cell is -/
def who (k : Nat) : Nat × Nat :=
  if k = 0 then (8, 0)
  else if k < 52 then
    (if (k - 1) % 17 = 0 then (2, (k - 1) / 17) else if (k - 1) % 17 = 1 then (10, (k - 1) / 17) else if (k - 1) % 17 = 2 then (11, (k - 1) / 17)
     else if (k - 1) % 17 = 3 then (12, (k - 1) / 17) else if (k - 1) % 17 = 4 then (13, (k - 1) / 17) else (3, 12 * ((k - 1) / 17) + ((k - 1) % 17 - 5)))
  else if k < 108 then
    (if (k - 52) % 28 = 0 then (0, (k - 52) / 28) else if (k - 52) % 28 = 1 then (14, (k - 52) / 28) else if (k - 52) % 28 = 2 then (15, (k - 52) / 28)
     else if (k - 52) % 28 = 3 then (16, (k - 52) / 28) else (17, 24 * ((k - 52) / 28) + ((k - 52) % 28 - 4)))
  else if k < 118 then
    (if k = 108 then (1, 0) else if k = 109 then (18, 0) else if k = 110 then (19, 0) else if k = 111 then (6, 0) else if k = 112 then (20, 0)
     else if k = 113 then (21, 0) else if k = 114 then (22, 0) else if k = 115 then (23, 0) else if k = 116 then (24, 0) else (25, 0))
  else if k < 126 then (if k % 2 = 0 then (4, (k - 118) / 2) else (26, (k - 118) / 2))
  else if k < 146 then
    (if (k - 126) % 4 = 0 then (5, (k - 126) / 4) else if (k - 126) % 4 = 1 then (3, 36 + (k - 126) / 4) else if (k - 126) % 4 = 2 then (4, 4 + (k - 126) / 4) else (26, 4 + (k - 126) / 4))
  else if k < 168 then
    (if k = 146 then (9, 0) else if k < 150 then (28, k - 147) else (k - 121, 0))
  else (if k % 2 = 0 then (7, (k - 168) / 2) else (27, (k - 168) / 2))
/-- the number of the new cell that an object is -/
def adr (t i : Nat) : Nat :=
  if t = 8 then 0
  else if t = 2 then 1 + 17 * i else if t = 10 then 2 + 17 * i else if t = 11 then 3 + 17 * i else if t = 12 then 4 + 17 * i else if t = 13 then 5 + 17 * i
  else if t = 3 then (if i < 36 then 6 + 17 * (i / 12) + i % 12 else 127 + 4 * (i - 36))
  else if t = 0 then 52 + 28 * i else if t = 14 then 53 + 28 * i else if t = 15 then 54 + 28 * i else if t = 16 then 55 + 28 * i
  else if t = 17 then 56 + 28 * (i / 24) + i % 24
  else if t = 1 then 108 else if t = 18 then 109 else if t = 19 then 110 else if t = 6 then 111 else if t = 20 then 112 else if t = 21 then 113 else if t = 22 then 114
  else if t = 23 then 115 else if t = 24 then 116 else if t = 25 then 117
  else if t = 4 then (if i < 4 then 118 + 2 * i else 128 + 4 * (i - 4))
  else if t = 26 then (if i < 4 then 119 + 2 * i else 129 + 4 * (i - 4))
  else if t = 5 then 126 + 4 * i
  else if t = 9 then 146 else if t = 28 then 147 + i
  else if t = 7 then 168 + 2 * i else if t = 27 then 169 + 2 * i
  else t + 121
/-- how many places an array has -/
def slen (t : Nat) : Nat := ([12, 12, 12, 14, 12, 12, 24, 25, 12, 12, 96, 96, 96, 60, 4, 5, 24, 0, 3110, 4, 4, 96, 5, 5, 5, 5, 120, 600, 24, 96, 128, 100, 24, 12, 24, 60, 60] : List Nat).getD (t - 10) 0
abbrev Zt : Type := (Nat → Nat) × Nat × Nat
def alen (Z : Zt) (t i : Nat) : Nat := if t = 27 then Z.1 i else slen t
/-- what an array holds: 0 int, 1 long, 2 byte, 3 Part, 4 Text, 5 Sheet, 6 Slot, 7 long[] -/
def tc (t : Nat) : Nat := ([3, 0, 0, 4, 0, 0, 7, 1, 0, 0, 2, 0, 0, 0, 5, 6, 0, 0, 0, 0, 0, 0, 0, 0, 0, 0, 0, 1, 1, 0, 0, 0, 1, 0, 0, 0, 0] : List Nat).getD (t - 10) 0
def tcT (k : Nat) : FieldType := ([.int, .long, .byte, .object "PowerBonds$Part", .object "PowerBonds$Text", .object "PowerBonds$Sheet", .object "PowerBonds$Slot", .array .long] : List FieldType).getD k .int
abbrev classes : List vw_C := [(RX0, TX0, 5), (RX1, TX1, 5), (RX2, TX2, 8), (RX3, TX3, 5), (RX4, TX4, 3), (RX5, TX5, 4), (RX6, TX6, 9), (RX7, TX7, 4), (RX8, TX8, 13), (RX9, TX9, 35)]
/-- fields of a class, and whether one is a reference -/
def nf (t : Nat) : Nat := ([5, 5, 8, 5, 3, 4, 9, 4, 13, 35] : List Nat).getD t 0
def fr (t k : Nat) : Bool := (([[1, 1, 1], [1, 1], [1, 1, 1, 1], [], [0, 0, 1], [0, 0, 1, 1], [0, 0, 1, 0, 0, 0, 1], [0, 0, 0, 1], [1, 1, 1, 1, 1, 1, 1, 1, 1, 1, 1], [1, 1, 1, 0, 1, 1, 1, 1, 1, 1, 1, 1, 1, 0, 1, 1, 0, 0, 0, 0, 0, 0, 0, 0, 0, 0, 0, 1, 1, 1, 1, 1, 1, 0, 1]] : List (List Nat)).getD t []).getD k 0 == 1
abbrev It : Type := Nat → Nat → Nat → Int32
abbrev Lt : Type := Nat → Nat → Nat → Int64
abbrev Rt : Type := Nat → Nat → Nat → Option (Nat × Nat)
/-- what a launch and a start fix: class numbers, slots, array classes, the first new cell, where old cells lie -/
abbrev En : Type := va_G × (Nat → ClassId) × Nat × (Nat → Nat → Nat) × Nat × (Nat → Int32)
def ad (E : En) (t i : Nat) : Nat := if t < 50 then E.2.2.1 + adr t i else E.2.2.2.1 t i
def cv (E : En) : AV → Value
  | .inl x => .int x
  | .inr (.inl x) => .long x
  | .inr (.inr none) => .null
  | .inr (.inr (some q)) => .ref (ad E q.1 q.2)
def cR (E : En) (r : Option (Nat × Nat)) : Option Nat := r.map (fun q => ad E q.1 q.2)
theorem cv_o (E : En) (r : Option (Nat × Nat)) : cv E (vo r) = va_rf (cR E r) := by cases r <;> rfl
/-- a reference that may be used -/
def VD (Z : Zt) (t i : Nat) : Prop := t < 50 ∧ adr t i < Z.2.1 ∧ who (adr t i) = (t, i)
def vv (Z : Zt) : AV → Prop
  | .inr (.inr (some q)) => 50 ≤ q.1 ∨ VD Z q.1 q.2
  | _ => True
def fV (E : En) (I : It) (R : Rt) (t i k : Nat) : Value := if fr t k then va_rf (cR E (R t i k)) else .int (I t i k)
def cellE (E : En) (I : It) (L : Lt) (R : Rt) (Z : Zt) (t i : Nat) : va_E :=
  if t < 10 then .inr (t, (List.range (nf t)).map (fV E I R t i))
  else if tc t = 1 then .inl (E.2.1 1, alen Z t i, .inr (.inl (L t i)))
  else if tc t < 3 then .inl (E.2.1 (tc t), alen Z t i, .inl (I t i))
  else .inl (E.2.1 (tc t), alen Z t i, .inr (.inr (.inr (.inr (fun j => cR E (R t i j))))))
/-- the world: the new cells hold what I, L, R say -/
def Wo (E : En) (I : It) (L : Lt) (R : Rt) (Z : Zt) (H : Heap) : Prop :=
  H.size = E.2.2.1 + Z.2.1 ∧ (∀ k, k < Z.2.1 → va_at E.1 classes (E.2.2.1 + k, cellE E I L R Z (who k).1 (who k).2) H) ∧ ∀ t i k q, R t i k = some q → VD Z t i → vv Z (vr q.1 q.2)
theorem adr_who_s : ∀ k, k < 168 → adr (who k).1 (who k).2 = k ∧ (who k).1 < 50 := by decide +kernel
theorem who_T (j : Nat) : who (168 + 2 * j) = (7, j) := by
  unfold who
  repeat (rw [if_neg (by omega)])
  rw [if_pos (by omega), show (168 + 2 * j - 168) / 2 = j by omega]
theorem who_C (j : Nat) : who (169 + 2 * j) = (27, j) := by
  unfold who
  rw [if_neg (by omega), if_neg (by omega), if_neg (by omega), if_neg (by omega), if_neg (by omega), if_neg (by omega), if_neg (by omega), if_neg (by omega), show (169 + 2 * j - 168) / 2 = j by omega]
theorem adr_who (k : Nat) : adr (who k).1 (who k).2 = k ∧ (who k).1 < 50 := by
  by_cases h : k < 168
  · exact adr_who_s k h
  · by_cases e : k % 2 = 0
    · obtain ⟨j, rfl⟩ : ∃ j, k = 168 + 2 * j := ⟨(k - 168) / 2, by omega⟩
      rw [who_T]
      exact ⟨rfl, Nat.lt_of_sub_eq_succ rfl⟩
    · obtain ⟨j, rfl⟩ : ∃ j, k = 169 + 2 * j := ⟨(k - 168) / 2, by omega⟩
      rw [who_C]
      exact ⟨rfl, Nat.lt_of_sub_eq_succ rfl⟩
theorem VD.mono {Z Z2 : Zt} (h : Z.2.1 ≤ Z2.2.1) {t i : Nat} (hv : VD Z t i) : VD Z2 t i := ⟨hv.1, Nat.lt_of_lt_of_le hv.2.1 h, hv.2.2⟩
theorem vv.mono {Z Z2 : Zt} (h : Z.2.1 ≤ Z2.2.1) {v : AV} (hv : vv Z v) : vv Z2 v := by
  match v, hv with
  | .inl _, _ => trivial
  | .inr (.inl _), _ => trivial
  | .inr (.inr none), _ => trivial
  | .inr (.inr (some _)), hv => exact hv.imp id (VD.mono h)
theorem Wo.at {E : En} {I : It} {L : Lt} {R : Rt} {Z : Zt} {H : Heap} (h : Wo E I L R Z H) {t i : Nat} (hv : VD Z t i) : va_at E.1 classes (ad E t i, cellE E I L R Z t i) H := by
  have h1 := h.2.1 (adr t i) hv.2.1
  rw [hv.2.2] at h1
  unfold ad
  rw [if_pos hv.1]
  exact h1
theorem VD.inj {Z : Zt} {E : En} {t i t2 i2 : Nat} (h : VD Z t i) (h2 : VD Z t2 i2) (e : ad E t i = ad E t2 i2) : t = t2 ∧ i = i2 := by
  unfold ad at e
  rw [if_pos h.1, if_pos h2.1] at e
  have e2 : adr t i = adr t2 i2 := by omega
  have h3 := h.2.2
  rw [e2, h2.2.2] at h3
  exact ⟨(Prod.mk.inj h3).1.symm, (Prod.mk.inj h3).2.symm⟩
/-- one cell is written -/
theorem Wo.put {E : En} {I I2 : It} {L L2 : Lt} {R R2 : Rt} {Z : Zt} {H H2 : Heap} (h : Wo E I L R Z H) {t i : Nat} (hv : VD Z t i) (hz : H2.size = H.size) (ho : ∀ q, q ≠ ad E t i → H2[q]? = H[q]?)
    (hc : va_at E.1 classes (ad E t i, cellE E I2 L2 R2 Z t i) H2) (hn : ∀ t2 i2, ¬ (t2 = t ∧ i2 = i) → I2 t2 i2 = I t2 i2 ∧ L2 t2 i2 = L t2 i2 ∧ R2 t2 i2 = R t2 i2) (hr : ∀ k q, R2 t i k = some q → vv Z (vr q.1 q.2)) : Wo E I2 L2 R2 Z H2 := by
  have ha : ad E t i = E.2.2.1 + adr t i := by unfold ad; rw [if_pos hv.1]
  refine ⟨hz.trans h.1, fun k hk => ?_, fun t2 i2 k q hq hv2 => ?_⟩
  · by_cases e : (who k).1 = t ∧ (who k).2 = i
    · have e2 : adr t i = k := by rw [← e.1, ← e.2]; exact (adr_who k).1
      rw [e.1, e.2, ← e2, ← ha]
      exact hc
    · obtain ⟨e1, e2, e3⟩ := hn _ _ e
      have e4 : cellE E I2 L2 R2 Z (who k).1 (who k).2 = cellE E I L R Z (who k).1 (who k).2 := by
        have e5 : fV E I2 R2 (who k).1 (who k).2 = fV E I R (who k).1 (who k).2 := by
          funext j
          unfold fV
          rw [e1, e3]
        unfold cellE
        rw [e1, e2, e3, e5]
      rw [e4]
      refine (h.2.1 k hk).kept (ho _ (fun q => e ?_))
      have q2 : k = adr t i := by
        have q : E.2.2.1 + k = ad E t i := q
        omega
      rw [q2, hv.2.2]
      exact ⟨rfl, rfl⟩
  · by_cases e : t2 = t ∧ i2 = i
    · obtain ⟨rfl, rfl⟩ := e
      exact hr k q hq
    · rw [(hn t2 i2 e).2.2] at hq
      exact h.2.2 t2 i2 k q hq hv2
/-- pointwise changes -/
def sI (I : It) (t i k : Nat) (x : Int32) : It := fun t2 i2 k2 => if t2 = t ∧ i2 = i then (if k2 = k then x else I t2 i2 k2) else I t2 i2 k2
def sL (L : Lt) (t i k : Nat) (x : Int64) : Lt := fun t2 i2 k2 => if t2 = t ∧ i2 = i then (if k2 = k then x else L t2 i2 k2) else L t2 i2 k2
def sR (R : Rt) (t i k : Nat) (x : Option (Nat × Nat)) : Rt := fun t2 i2 k2 => if t2 = t ∧ i2 = i then (if k2 = k then x else R t2 i2 k2) else R t2 i2 k2
theorem sI_n {I : It} {t i k : Nat} {x : Int32} {t2 i2 : Nat} (h : ¬ (t2 = t ∧ i2 = i)) : sI I t i k x t2 i2 = I t2 i2 := by funext j; unfold sI; rw [if_neg h]
theorem sL_n {I : Lt} {t i k : Nat} {x : Int64} {t2 i2 : Nat} (h : ¬ (t2 = t ∧ i2 = i)) : sL I t i k x t2 i2 = I t2 i2 := by funext j; unfold sL; rw [if_neg h]
theorem sR_n {I : Rt} {t i k : Nat} {x : Option (Nat × Nat)} {t2 i2 : Nat} (h : ¬ (t2 = t ∧ i2 = i)) : sR I t i k x t2 i2 = I t2 i2 := by funext j; unfold sR; rw [if_neg h]
theorem sI_s (I : It) (t i k : Nat) (x : Int32) : sI I t i k x t i = upd (I t i) k x := by funext j; unfold sI upd; rw [if_pos ⟨rfl, rfl⟩]
theorem sL_s (I : Lt) (t i k : Nat) (x : Int64) : sL I t i k x t i = vp_updL (I t i) k x := by funext j; unfold sL vp_updL; rw [if_pos ⟨rfl, rfl⟩]
theorem sR_s (I : Rt) (t i k : Nat) (x : Option (Nat × Nat)) : sR I t i k x t i = va_up (I t i) k x := by funext j; unfold sR va_up; rw [if_pos ⟨rfl, rfl⟩]
end
section
/-! ===== what a launch fixes, carried from state to state ===== -/
def va_AOA (t : FieldType) (U : State) : Prop := (Cond.arrayOver (.array t)).before #[] U = true
theorem va_AOA.of {t : FieldType} {A : Array Value} {U : State} (h : (Cond.arrayOver (.array t)).before A U = true) : va_AOA t U := h
theorem va_AOA.use {t : FieldType} {A : Array Value} {U : State} (h : va_AOA t U) : (Cond.arrayOver (.array t)).before A U = true := h
def G : List Cond := lw_tbl.filter goodWord
theorem G_at {i : Nat} {w : Cond} (h : lw_tbl[i]? = some w) (hg : goodWord w = true) : w ∈ G := List.mem_filter.mpr ⟨List.mem_of_getElem? h, hg⟩
theorem G_good : ∀ w ∈ G, (w.onTables && w.keeps) = true ∨ ∃ ty, w = .arrayClass ty := fun _ h => good_of_word (List.mem_filter.mp h).2
def nestM (w : Cond) : Bool := match w with
  | .methodLinkNest _ _ _ _ => true
  | .fieldLinkNest _ _ _ _ _ _ => true
  | _ => false
def Gn : List Cond := lw_tbl.filter nestM
theorem Gn_at {i : Nat} {w : Cond} (h : lw_tbl[i]? = some w) (hg : nestM w = true) : w ∈ Gn := List.mem_filter.mpr ⟨List.mem_of_getElem? h, hg⟩
def Af (E : En) : Nat → Prop := fun q => E.2.2.1 ≤ q
def tys (E : En) : List (ClassId × FieldType) := (List.range 8).map fun k => (E.2.1 k, tcT k)
theorem tys_at (E : En) {k : Nat} (h : k < 8) : (tys E)[k]? = some (E.2.1 k, tcT k) := by
  unfold tys
  rw [List.getElem?_map, List.getElem?_range h]
  rfl
def abv (k : Nat) : Value := .int (([-1, 0, 0, 2, 0, 4] : List Int32).getD k 0)
def sby : List (List Int32) := [[103, 105, 118, 101], [114, 101, 97, 100]]
def StF (E : En) (U : State) (H : Heap) : Prop :=
  va_K E.1 classes (tys E) U ∧ (∀ w ∈ Gn, va_Nw w U) ∧
  (va_AO "PowerBonds$Part" U ∧ va_AO "PowerBonds$Text" U ∧ va_AO "PowerBonds$Sheet" U ∧ va_AO "PowerBonds$Slot" U ∧ va_AOA .long U ∧ va_Nw (.castable "[I" "java/lang/Cloneable") U) ∧
  (vk_R "PowerBonds$Tape" 70 "give" (E.2.2.2.1 51 0) U ∧ vk_R "PowerBonds$Tape" 76 "read" (E.2.2.2.1 51 1) U) ∧
  (va_Z "PowerBonds" "ABOVE" "[I" (.ref (E.2.2.2.1 50 0)) (Af E) U H ∧ va_T .int (E.2.2.2.1 50 0) 6 abv (Af E) U H) ∧
  vk_S 2 [4, 4] sby (E.2.2.2.1 51) (E.2.2.2.1 52) (Af E) U H ∧
  (va_Z "java/lang/String" "COMPACT_STRINGS" "Z" (.int 1) (Af E) U H ∧ va_Z "jdk/internal/util/Preconditions" "SIOOBE_FORMATTER" "Ljava/util/function/BiFunction;" (if E.2.2.2.1 55 0 = 0 then .null else .ref (E.2.2.2.1 54 0)) (Af E) U H) ∧
  (va_X (E.2.2.2.1 53 0) E.2.2.2.2.1 E.2.2.2.2.2 U H ∧ E.2.2.2.1 53 0 < E.2.2.1)
theorem va_AOA.moved {t : FieldType} {u U : State} (hvm : u.vm.Alike U.vm) (h : va_AOA t u) : va_AOA t U := by
  exact over_moved (a := #[]) (a' := #[]) hvm h
theorem StF.moved {E : En} {s U : State} {H : Heap} (hW : s.WarmedH U.vm) (h : StF E s H) : StF E U H := by
  obtain ⟨h1, h2, ⟨a1, a2, a3, a4, a5, a6⟩, ⟨r1, r2⟩, ⟨z1, z2⟩, s1, ⟨c1, c2⟩, x1, x2⟩ := h
  have hvm := hW.alike
  refine ⟨h1.moved hvm, fun w hw => ?_, ⟨a1.moved hvm, a2.moved hvm, a3.moved hvm, a4.moved hvm, a5.moved hvm, va_Nw.warmC hW a6⟩, ⟨r1.warm hW, r2.warm hW⟩, ⟨z1.moved hvm, z2.moved hvm⟩, s1.moved hvm, ⟨c1.moved hvm, c2.moved hvm⟩, x1.moved hvm, x2⟩
  have hm := (List.mem_filter.mp hw).2
  have hz := h2 w hw
  cases w <;> first | exact va_Nw.warmM hW hz | exact va_Nw.warmF hW hz | cases hm
theorem StF.kept {E : En} {U : State} {H H1 : Heap} (h : StF E U H) (hq : ∀ a : Nat, a < H.size → ¬ Af E a → H1[a]? = H[a]?) (hB : E.2.2.1 ≤ H.size) : StF E U H1 := by
  obtain ⟨h1, h2, h3, h4, ⟨z1, z2⟩, s1, ⟨c1, c2⟩, x1, x2⟩ := h
  exact ⟨h1, h2, h3, h4, ⟨z1.kept hq, z2.kept hq⟩, s1.kept hq, ⟨c1.kept hq, c2.kept hq⟩, x1.kept (hq _ (Nat.lt_of_lt_of_le x2 hB) (Nat.not_le.mpr x2)), x2⟩
theorem StF.same {E : En} {s U : State} {H : Heap} (hv : U.vm = s.vm) (h : StF E s H) : StF E U H := by
  obtain ⟨h1, h2, ⟨a1, a2, a3, a4, a5, a6⟩, ⟨r1, r2⟩, ⟨z1, z2⟩, s1, ⟨c1, c2⟩, x1, x2⟩ := h
  have hvm : s.vm.Alike U.vm := by rw [hv]; exact Vm.Alike.refl _
  refine ⟨h1.moved hvm, fun w hw => ?_, ⟨a1.moved hvm, a2.moved hvm, a3.moved hvm, a4.moved hvm, a5.moved hvm, va_Nw.same rfl hv.symm a6⟩, ⟨r1.same hv, r2.same hv⟩, ⟨z1.moved hvm, z2.moved hvm⟩, s1.moved hvm, ⟨c1.moved hvm, c2.moved hvm⟩, x1.moved hvm, x2⟩
  have hm := (List.mem_filter.mp hw).2
  have hz := h2 w hw
  cases w <;> first | exact va_Nw.same rfl hv.symm hz | cases hm
end
section
/-! ===== locals by place ===== -/
def lvP : List (Option AV) → Nat → List (Nat × AV)
  | [], _ => []
  | none :: t, k => lvP t (k + 1)
  | some v :: t, k => (k, v) :: lvP t (k + 1)
theorem lvP_mem {v : AV} : ∀ (ls : List (Option AV)) (k j : Nat), (j, v) ∈ lvP ls k ↔ ∃ i, j = k + i ∧ ls[i]? = some (some v)
  | [], k, j => by simp [lvP]
  | none :: t, k, j => by
    unfold lvP
    rw [lvP_mem t (k + 1) j]
    constructor
    · rintro ⟨i, h1, h2⟩
      exact ⟨i + 1, by omega, h2⟩
    · rintro ⟨i, h1, h2⟩
      cases i with
      | zero => simp at h2
      | succ i => exact ⟨i, by omega, h2⟩
  | some w :: t, k, j => by
    unfold lvP
    rw [List.mem_cons, lvP_mem t (k + 1) j]
    constructor
    · rintro (h | ⟨i, h1, h2⟩)
      · cases h
        exact ⟨0, rfl, rfl⟩
      · exact ⟨i + 1, by omega, h2⟩
    · rintro ⟨i, h1, h2⟩
      cases i with
      | zero =>
        left
        have h3 : w = v := by simpa using h2
        rw [h1, h3]
        rfl
      | succ i => exact Or.inr ⟨i, by omega, h2⟩
def lvH (E : En) (als : Array Slot) (nL : Nat) (ls : List (Option AV)) : Prop := lv_has als nL ((lvP ls 0).map fun q => (q.1, cv E q.2)) ∧ ls.length = nL
theorem lvH.get {E : En} {als : Array Slot} {nL : Nat} {ls : List (Option AV)} (h : lvH E als nL ls) {k : Nat} {v : AV} (hk : ls[k]? = some (some v)) : als[k]? = some (.val (cv E v)) := by
  have h1 : (k, v) ∈ lvP ls 0 := (lvP_mem ls 0 k).mpr ⟨k, by omega, hk⟩
  exact h.1.2.2 (k, cv E v) (List.mem_map.mpr ⟨(k, v), h1, rfl⟩)
def isLg : Option AV → Bool
  | some (.inr (.inl _)) => true
  | _ => false
theorem cv_cat (E : En) (v : AV) : (cv E v).category = 2 ↔ isLg (some v) = true := by
  match v with
  | .inl _ => simp [cv, isLg, Value.category]
  | .inr (.inl _) => simp [cv, isLg, Value.category]
  | .inr (.inr none) => simp [cv, isLg, Value.category]
  | .inr (.inr (some _)) => simp [cv, isLg, Value.category]
/-- a value of one word comes to a place -/
theorem lvH.st1 {E : En} {als : Array Slot} {nL : Nat} {ls : List (Option AV)} (h : lvH E als nL ls) {k : Nat} {v : AV} (hp : ∀ j, j + 1 = k → isLg (ls.getD j none) = false) {als2 : Array Slot}
    (h2 : lv_has als2 nL ((k, cv E v) :: ((lvP ls 0).map fun q => (q.1, cv E q.2)).filter (fun q => !(q.1 == k) && !(q.1 + 1 == k && q.2.category == 2)))) : lvH E als2 nL (ls.set k (some v)) := by
  refine ⟨⟨h2.1, h2.2.1, fun q hq => ?_⟩, by rw [List.length_set]; exact h.2⟩
  obtain ⟨⟨j, w⟩, h3, rfl⟩ := List.mem_map.mp hq
  obtain ⟨i, h4, h5⟩ := (lvP_mem _ 0 j).mp h3
  have h4 : j = i := by omega
  subst h4
  by_cases e : j = k
  · subst e
    have hl : j < ls.length := by
      have := (List.getElem?_eq_some_iff.mp h5).1
      rwa [List.length_set] at this
    rw [List.getElem?_set_self hl] at h5
    cases h5
    exact h2.2.2 _ List.mem_cons_self
  · rw [List.getElem?_set_ne (Ne.symm e)] at h5
    refine h2.2.2 _ (List.mem_cons_of_mem _ (List.mem_filter.mpr ⟨List.mem_map.mpr ⟨(j, w), (lvP_mem _ 0 j).mpr ⟨j, by omega, h5⟩, rfl⟩, ?_⟩))
    have e1 : (j == k) = false := by simpa using e
    have e2 : (j + 1 == k && (cv E w).category == 2) = false := by
      by_cases e3 : j + 1 = k
      · have e4 := hp j e3
        rw [List.getD_eq_getElem?_getD, h5, Option.getD_some] at e4
        have e5 : ¬ (cv E w).category = 2 := fun q => by rw [(cv_cat E w).mp q] at e4; cases e4
        simp [e5]
      · simp [e3]
    show (!(j == k) && !(j + 1 == k && (cv E w).category == 2)) = true
    rw [e1, e2]
    rfl
theorem lvH.st2 {E : En} {als : Array Slot} {nL : Nat} {ls : List (Option AV)} (h : lvH E als nL ls) {k : Nat} {v : AV} (hp : ∀ j, j + 1 = k → isLg (ls.getD j none) = false) {als2 : Array Slot}
    (h2 : lv_has als2 nL ((k, cv E v) :: ((lvP ls 0).map fun q => (q.1, cv E q.2)).filter (fun q => !(q.1 == k) && (!(q.1 == k + 1) && !(q.1 + 1 == k && q.2.category == 2))))) : lvH E als2 nL ((ls.set k (some v)).set (k + 1) none) := by
  refine ⟨⟨h2.1, h2.2.1, fun q hq => ?_⟩, by rw [List.length_set, List.length_set]; exact h.2⟩
  obtain ⟨⟨j, w⟩, h3, rfl⟩ := List.mem_map.mp hq
  obtain ⟨i, h4, h5⟩ := (lvP_mem _ 0 j).mp h3
  have h4 : j = i := by omega
  subst h4
  have hl0 := (List.getElem?_eq_some_iff.mp h5).1
  rw [List.length_set, List.length_set] at hl0
  by_cases e6 : j = k + 1
  · subst e6
    rw [List.getElem?_set_self (by rw [List.length_set]; exact hl0)] at h5
    cases h5
  rw [List.getElem?_set_ne (Ne.symm e6)] at h5
  by_cases e : j = k
  · subst e
    rw [List.getElem?_set_self hl0] at h5
    cases h5
    exact h2.2.2 _ List.mem_cons_self
  · rw [List.getElem?_set_ne (Ne.symm e)] at h5
    refine h2.2.2 _ (List.mem_cons_of_mem _ (List.mem_filter.mpr ⟨List.mem_map.mpr ⟨(j, w), (lvP_mem _ 0 j).mpr ⟨j, by omega, h5⟩, rfl⟩, ?_⟩))
    have e1 : (j == k) = false := by simpa using e
    have e7 : (j == k + 1) = false := by simpa using e6
    have e2 : (j + 1 == k && (cv E w).category == 2) = false := by
      by_cases e3 : j + 1 = k
      · have e4 := hp j e3
        rw [List.getD_eq_getElem?_getD, h5, Option.getD_some] at e4
        have e5 : ¬ (cv E w).category = 2 := fun q => by rw [(cv_cat E w).mp q] at e4; cases e4
        simp [e5]
      · simp [e3]
    show (!(j == k) && (!(j == k + 1) && !(j + 1 == k && (cv E w).category == 2))) = true
    rw [e1, e2, e7]
    rfl
/-! ===== the judgements ===== -/
def Fx (E : En) (d : Nat) (M : Mt) (p : Program) (Rm : Room) (s : State) (m : MethodId) (args : Array Value) (meth : Method) (c : Code) : Prop :=
  p.tables.exec = Jvm.exec ∧ c.code = M.2.1 ∧ c.maxLocals = M.2.2.1 ∧ s.vm.findClass M.1.cls = some m.cls ∧ (∀ w ∈ G, w.before args s = true) ∧ StF E s s.heap ∧ meth.sig.returnType = M.2.2.2 ∧ meth.locks = false ∧ meth.name = M.1.name ∧ d ≤ Rm.frames ∧ 40 * d ≤ Rm.locals ∧ E.2.2.1 ≤ s.heap.size
/-- the end of a method: its answer, and the world behind it -/
def QcM (E : En) (r : Option AV) (I : It) (L : Lt) (R : Rt) (Z : Zt) : Array Value → State → Outcome → State → Prop := fun _ st oc t =>
  oc = .returned (r.map (cv E)) ∧ Wo E I L R Z t.heap ∧ (∀ v, r = some v → vv Z v) ∧ va_F (Af E) st t
def PcM (E : En) (as : List AV) (I : It) (L : Lt) (R : Rt) (Z : Zt) : Array Value → State → Prop := va_Pc (as.map (cv E)) (fun U => StF E U U.heap ∧ Wo E I L R Z U.heap ∧ ∀ v ∈ as, vv Z v)
def wsM (M : Mt) : List Cond := Cond.code M.1 M.2.1 M.2.2.1 M.2.2.2 :: G
def rmM (d mc ms : Nat) : Room := { frames := d, cells := mc, slots := ms, locals := 40 * d }
abbrev Qt : Type := Option AV → It → Lt → Rt → Zt → Prop
def AW (l : Launch) (E : En) (d : Nat) (M : Mt) (Z0 : Zt) (pc : Nat) (ls : List (Option AV)) (st : List AV) (I : It) (L : Lt) (R : Rt) (Z : Zt) (r : Option AV) (I2 : It) (L2 : Lt) (R2 : Rt) (Z2 : Zt) : Prop :=
  (Z.2.1 ≤ Z2.2.1 ∧ Z.2.2 ≤ Z2.2.2) ∧ ∀ (p : Program) (e : Env) (Rm : Room) (s : State) (m : MethodId) (args : Array Value) (below : List Frame) (meth : Method) (c : Code), Fx E d M p Rm s m args meth c → Z2.2.1 - Z0.2.1 ≤ Rm.cells → Z2.2.2 - Z0.2.2 ≤ Rm.slots → Z0.2.1 ≤ Z.2.1 → Z0.2.2 ≤ Z.2.2 →
    ∀ (als : Array Slot) (H : Heap) (locs : List Loc), lvH E als M.2.2.1 ls → (∀ v ∈ st, vv Z v) → (∀ v, some v ∈ ls → vv Z v) → Wo E I L R Z H → va_S (Af E) s.heap H locs →
      W p l e Rm s m args below meth c H locs (Z.2.1 - Z0.2.1) (Z.2.2 - Z0.2.2) (MQ below (QcM E r I2 L2 R2 Z2) args s (Z2.2.1 - Z0.2.1) (Z2.2.2 - Z0.2.2) (Af E)) (F0 m pc als (st.map (cv E)))
/-- from here the method comes to its end, with Q of its answer and of the world -/
def AWq (l : Launch) (E : En) (d : Nat) (M : Mt) (Z0 : Zt) (pc : Nat) (ls : List (Option AV)) (st : List AV) (I : It) (L : Lt) (R : Rt) (Z : Zt) (Q : Qt) : Prop :=
  ∃ r I2 L2 R2 Z2, Q r I2 L2 R2 Z2 ∧ AW l E d M Z0 pc ls st I L R Z r I2 L2 R2 Z2
/-- a method's contract at one start -/
def AMet (l : Launch) (E : En) (d : Nat) (M : Mt) (as : List AV) (I : It) (L : Lt) (R : Rt) (Z : Zt) (Q : Qt) : Prop :=
  ∃ r I2 L2 R2 Z2, Q r I2 L2 R2 Z2 ∧ (Z.2.1 ≤ Z2.2.1 ∧ Z.2.2 ≤ Z2.2.2) ∧ Met l M.1 (wsM M) (rmM d (Z2.2.1 - Z.2.1) (Z2.2.2 - Z.2.2)) (PcM E as I L R Z) (QcM E r I2 L2 R2 Z2) (Z2.2.1 - Z.2.1) (Z2.2.2 - Z.2.2) (Af E)
section LIFT
variable {l : Launch} {E : En} {d : Nat} {M : Mt} {Z0 : Zt} {pc pc2 : Nat} {ls ls2 : List (Option AV)} {st st2 : List AV} {I : It} {L : Lt} {R : Rt} {Z : Zt} {Q : Qt}
/-- an instruction that leaves the world as it is -/
theorem AWq.lift (k : AWq l E d M Z0 pc2 ls2 st2 I L R Z Q) (hv : (∀ v ∈ st, vv Z v) → (∀ v, some v ∈ ls → vv Z v) → (∀ v ∈ st2, vv Z v) ∧ (∀ v, some v ∈ ls2 → vv Z v))
    (hw : ∀ (p : Program) (e : Env) (Rm : Room) (s : State) (m : MethodId) (args : Array Value) (below : List Frame) (meth : Method) (c : Code) (cells slots : Nat) (Qs : State → Prop), Fx E d M p Rm s m args meth c → ∀ (als : Array Slot) (H : Heap) (locs : List Loc), lvH E als M.2.2.1 ls → (∀ v ∈ st, vv Z v) → Wo E I L R Z H → va_S (Af E) s.heap H locs →
      (∀ als2 : Array Slot, lvH E als2 M.2.2.1 ls2 → W p l e Rm s m args below meth c H locs cells slots Qs (F0 m pc2 als2 (st2.map (cv E)))) → W p l e Rm s m args below meth c H locs cells slots Qs (F0 m pc als (st.map (cv E)))) :
    AWq l E d M Z0 pc ls st I L R Z Q := by
  obtain ⟨r, I2, L2, R2, Z2, hq, hz, k⟩ := k
  refine ⟨r, I2, L2, R2, Z2, hq, hz, fun p e Rm s m args below meth c F h1 h2 h3 h4 als H locs hl v1 v2 hW hS => ?_⟩
  obtain ⟨w1, w2⟩ := hv v1 v2
  exact hw p e Rm s m args below meth c _ _ _ F als H locs hl v1 hW hS (fun als2 hl2 => k p e Rm s m args below meth c F h1 h2 h3 h4 als2 H locs hl2 w1 w2 hW hS)
end LIFT
end
section
theorem vt1 {Z : Zt} {a : AV} {st : List AV} (h : ∀ v ∈ a :: st, vv Z v) : ∀ v ∈ st, vv Z v := fun v hv => h v (List.mem_cons_of_mem _ hv)
theorem vc1 {Z : Zt} {a : AV} {st : List AV} (ha : vv Z a) (h : ∀ v ∈ st, vv Z v) : ∀ v ∈ a :: st, vv Z v := fun v hv => (List.mem_cons.mp hv).elim (fun e => by rw [e]; exact ha) (h v)
theorem vh1 {Z : Zt} {a : AV} {st : List AV} (h : ∀ v ∈ a :: st, vv Z v) : vv Z a := h a List.mem_cons_self
theorem cat1 (E : En) {v : AV} (h : isLg (some v) = false) : (cv E v).category = 1 := (lv_cat (cv E v)).resolve_right (fun q => by rw [(cv_cat E v).mp q] at h; cases h)
theorem vset {Z : Zt} {ls : List (Option AV)} {k : Nat} {w : AV} (h : ∀ v, some v ∈ ls → vv Z v) (hw : vv Z w) : ∀ v, some v ∈ ls.set k (some w) → vv Z v := fun v hv => by
  rcases List.mem_or_eq_of_mem_set hv with h1 | h1
  · exact h v h1
  · cases h1
    exact hw
theorem vsetN {Z : Zt} {ls : List (Option AV)} {k : Nat} (h : ∀ v, some v ∈ ls → vv Z v) : ∀ v, some v ∈ ls.set k none → vv Z v := fun v hv => by
  rcases List.mem_or_eq_of_mem_set hv with h1 | h1
  · exact h v h1
  · cases h1
theorem hpS {ls : List (Option AV)} {k j : Nat} (e : j = k + 1) (h : isLg (ls.getD k none) = false) : ∀ q, q + 1 = j → isLg (ls.getD q none) = false := fun q hq => by
  have e2 : q = k := by omega
  rw [e2]
  exact h
/-- a branch at its place: where it goes, and the place behind it -/
abbrev Db (M : Mt) (pc : Nat) (i : Instr) (off : Int) (tgt pc2 : Nat) : Prop := decode M.2.1 pc = .ok (i, 3) ∧ pc + 3 = pc2 ∧ (pc : Int) + off = (tgt : Int)
section RULES
variable {l : Launch} {E : En} {d : Nat} {M : Mt} {Z0 : Zt} {pc pc2 tgt : Nat} {ls : List (Option AV)} {st : List AV} {I : It} {L : Lt} {R : Rt} {Z : Zt} {Q : Qt}
theorem aw_iadd {x y : Int32} (hd : Dc M pc (.iadd) 1 pc2) (k : AWq l E d M Z0 pc2 ls (vi (x + y) :: st) I L R Z Q) : AWq l E d M Z0 pc ls (vi y :: vi x :: st) I L R Z Q := by
  obtain ⟨hd, rfl⟩ := hd
  exact k.lift (fun v1 v2 => ⟨vc1 trivial (vt1 (vt1 v1)), v2⟩) (fun p e Rm s m args below meth c cells slots Qs F als H locs hl v1 hW hS kk => lv_iadd F.1 F.2.1 hd (kk als hl))
theorem aw_isub {x y : Int32} (hd : Dc M pc (.isub) 1 pc2) (k : AWq l E d M Z0 pc2 ls (vi (x - y) :: st) I L R Z Q) : AWq l E d M Z0 pc ls (vi y :: vi x :: st) I L R Z Q := by
  obtain ⟨hd, rfl⟩ := hd
  exact k.lift (fun v1 v2 => ⟨vc1 trivial (vt1 (vt1 v1)), v2⟩) (fun p e Rm s m args below meth c cells slots Qs F als H locs hl v1 hW hS kk => lv_isub F.1 F.2.1 hd (kk als hl))
theorem aw_imul {x y : Int32} (hd : Dc M pc (.imul) 1 pc2) (k : AWq l E d M Z0 pc2 ls (vi (x * y) :: st) I L R Z Q) : AWq l E d M Z0 pc ls (vi y :: vi x :: st) I L R Z Q := by
  obtain ⟨hd, rfl⟩ := hd
  exact k.lift (fun v1 v2 => ⟨vc1 trivial (vt1 (vt1 v1)), v2⟩) (fun p e Rm s m args below meth c cells slots Qs F als H locs hl v1 hW hS kk => lv_imul F.1 F.2.1 hd (kk als hl))
theorem aw_iand {x y : Int32} (hd : Dc M pc (.iand) 1 pc2) (k : AWq l E d M Z0 pc2 ls (vi (x &&& y) :: st) I L R Z Q) : AWq l E d M Z0 pc ls (vi y :: vi x :: st) I L R Z Q := by
  obtain ⟨hd, rfl⟩ := hd
  exact k.lift (fun v1 v2 => ⟨vc1 trivial (vt1 (vt1 v1)), v2⟩) (fun p e Rm s m args below meth c cells slots Qs F als H locs hl v1 hW hS kk => lv_iand F.1 F.2.1 hd (kk als hl))
theorem aw_ior {x y : Int32} (hd : Dc M pc (.ior) 1 pc2) (k : AWq l E d M Z0 pc2 ls (vi (x ||| y) :: st) I L R Z Q) : AWq l E d M Z0 pc ls (vi y :: vi x :: st) I L R Z Q := by
  obtain ⟨hd, rfl⟩ := hd
  exact k.lift (fun v1 v2 => ⟨vc1 trivial (vt1 (vt1 v1)), v2⟩) (fun p e Rm s m args below meth c cells slots Qs F als H locs hl v1 hW hS kk => lv_ior F.1 F.2.1 hd (kk als hl))
theorem aw_ixor {x y : Int32} (hd : Dc M pc (.ixor) 1 pc2) (k : AWq l E d M Z0 pc2 ls (vi (x ^^^ y) :: st) I L R Z Q) : AWq l E d M Z0 pc ls (vi y :: vi x :: st) I L R Z Q := by
  obtain ⟨hd, rfl⟩ := hd
  exact k.lift (fun v1 v2 => ⟨vc1 trivial (vt1 (vt1 v1)), v2⟩) (fun p e Rm s m args below meth c cells slots Qs F als H locs hl v1 hW hS kk => lv_ixor F.1 F.2.1 hd (kk als hl))
theorem aw_ishl {x y : Int32} (hd : Dc M pc (.ishl) 1 pc2) (k : AWq l E d M Z0 pc2 ls (vi (x <<< (y &&& 31)) :: st) I L R Z Q) : AWq l E d M Z0 pc ls (vi y :: vi x :: st) I L R Z Q := by
  obtain ⟨hd, rfl⟩ := hd
  exact k.lift (fun v1 v2 => ⟨vc1 trivial (vt1 (vt1 v1)), v2⟩) (fun p e Rm s m args below meth c cells slots Qs F als H locs hl v1 hW hS kk => lv_ishl F.1 F.2.1 hd (kk als hl))
theorem aw_ishr {x y : Int32} (hd : Dc M pc (.ishr) 1 pc2) (k : AWq l E d M Z0 pc2 ls (vi (x >>> (y &&& 31)) :: st) I L R Z Q) : AWq l E d M Z0 pc ls (vi y :: vi x :: st) I L R Z Q := by
  obtain ⟨hd, rfl⟩ := hd
  exact k.lift (fun v1 v2 => ⟨vc1 trivial (vt1 (vt1 v1)), v2⟩) (fun p e Rm s m args below meth c cells slots Qs F als H locs hl v1 hW hS kk => lv_ishr F.1 F.2.1 hd (kk als hl))
theorem aw_iushr {x y : Int32} (hd : Dc M pc (.iushr) 1 pc2) (k : AWq l E d M Z0 pc2 ls (vi (x.toUInt32 >>> (y.toUInt32 &&& Int32.toUInt32 31)).toInt32 :: st) I L R Z Q) : AWq l E d M Z0 pc ls (vi y :: vi x :: st) I L R Z Q := by
  obtain ⟨hd, rfl⟩ := hd
  exact k.lift (fun v1 v2 => ⟨vc1 trivial (vt1 (vt1 v1)), v2⟩) (fun p e Rm s m args below meth c cells slots Qs F als H locs hl v1 hW hS kk => lv_iushr F.1 F.2.1 hd rfl (kk als hl))
theorem aw_idiv {x y : Int32} (hd : Dc M pc (.idiv) 1 pc2) (hne : ¬ y = 0) (k : AWq l E d M Z0 pc2 ls (vi (x / y) :: st) I L R Z Q) : AWq l E d M Z0 pc ls (vi y :: vi x :: st) I L R Z Q := by
  obtain ⟨hd, rfl⟩ := hd
  exact k.lift (fun v1 v2 => ⟨vc1 trivial (vt1 (vt1 v1)), v2⟩) (fun p e Rm s m args below meth c cells slots Qs F als H locs hl v1 hW hS kk => lv_idiv F.1 F.2.1 hd hne (kk als hl))
theorem aw_irem {x y : Int32} (hd : Dc M pc (.irem) 1 pc2) (hne : ¬ y = 0) (k : AWq l E d M Z0 pc2 ls (vi (x - x / y * y) :: st) I L R Z Q) : AWq l E d M Z0 pc ls (vi y :: vi x :: st) I L R Z Q := by
  obtain ⟨hd, rfl⟩ := hd
  exact k.lift (fun v1 v2 => ⟨vc1 trivial (vt1 (vt1 v1)), v2⟩) (fun p e Rm s m args below meth c cells slots Qs F als H locs hl v1 hW hS kk => lv_irem F.1 F.2.1 hd hne (kk als hl))
theorem aw_ladd {x y : Int64} (hd : Dc M pc (.ladd) 1 pc2) (k : AWq l E d M Z0 pc2 ls (vl (x + y) :: st) I L R Z Q) : AWq l E d M Z0 pc ls (vl y :: vl x :: st) I L R Z Q := by
  obtain ⟨hd, rfl⟩ := hd
  exact k.lift (fun v1 v2 => ⟨vc1 trivial (vt1 (vt1 v1)), v2⟩) (fun p e Rm s m args below meth c cells slots Qs F als H locs hl v1 hW hS kk => lv_ladd F.1 F.2.1 hd (kk als hl))
theorem aw_lsub {x y : Int64} (hd : Dc M pc (.lsub) 1 pc2) (k : AWq l E d M Z0 pc2 ls (vl (x - y) :: st) I L R Z Q) : AWq l E d M Z0 pc ls (vl y :: vl x :: st) I L R Z Q := by
  obtain ⟨hd, rfl⟩ := hd
  exact k.lift (fun v1 v2 => ⟨vc1 trivial (vt1 (vt1 v1)), v2⟩) (fun p e Rm s m args below meth c cells slots Qs F als H locs hl v1 hW hS kk => lv_lsub F.1 F.2.1 hd (kk als hl))
theorem aw_lmul {x y : Int64} (hd : Dc M pc (.lmul) 1 pc2) (k : AWq l E d M Z0 pc2 ls (vl (x * y) :: st) I L R Z Q) : AWq l E d M Z0 pc ls (vl y :: vl x :: st) I L R Z Q := by
  obtain ⟨hd, rfl⟩ := hd
  exact k.lift (fun v1 v2 => ⟨vc1 trivial (vt1 (vt1 v1)), v2⟩) (fun p e Rm s m args below meth c cells slots Qs F als H locs hl v1 hW hS kk => lv_lmul F.1 F.2.1 hd (kk als hl))
theorem aw_ldiv {x y : Int64} (hd : Dc M pc (.ldiv) 1 pc2) (hne : ¬ y = 0) (k : AWq l E d M Z0 pc2 ls (vl (x / y) :: st) I L R Z Q) : AWq l E d M Z0 pc ls (vl y :: vl x :: st) I L R Z Q := by
  obtain ⟨hd, rfl⟩ := hd
  exact k.lift (fun v1 v2 => ⟨vc1 trivial (vt1 (vt1 v1)), v2⟩) (fun p e Rm s m args below meth c cells slots Qs F als H locs hl v1 hW hS kk => lv_ldiv F.1 F.2.1 hd hne (kk als hl))
theorem aw_lrem {x y : Int64} (hd : Dc M pc (.lrem) 1 pc2) (hne : ¬ y = 0) (k : AWq l E d M Z0 pc2 ls (vl (x - x / y * y) :: st) I L R Z Q) : AWq l E d M Z0 pc ls (vl y :: vl x :: st) I L R Z Q := by
  obtain ⟨hd, rfl⟩ := hd
  exact k.lift (fun v1 v2 => ⟨vc1 trivial (vt1 (vt1 v1)), v2⟩) (fun p e Rm s m args below meth c cells slots Qs F als H locs hl v1 hW hS kk => lv_lrem F.1 F.2.1 hd hne (kk als hl))
theorem aw_lcmp {x y : Int64} (hd : Dc M pc (.lcmp) 1 pc2) (k : AWq l E d M Z0 pc2 ls (vi (lg_cmp x y) :: st) I L R Z Q) : AWq l E d M Z0 pc ls (vl y :: vl x :: st) I L R Z Q := by
  obtain ⟨hd, rfl⟩ := hd
  exact k.lift (fun v1 v2 => ⟨vc1 trivial (vt1 (vt1 v1)), v2⟩) (fun p e Rm s m args below meth c cells slots Qs F als H locs hl v1 hW hS kk => W.lcmp F.1 F.2.1 hd (kk als hl))
theorem aw_ineg {x : Int32} (hd : Dc M pc (.ineg) 1 pc2) (k : AWq l E d M Z0 pc2 ls (vi (-x) :: st) I L R Z Q) : AWq l E d M Z0 pc ls (vi x :: st) I L R Z Q := by
  obtain ⟨hd, rfl⟩ := hd
  exact k.lift (fun v1 v2 => ⟨vc1 trivial (vt1 v1), v2⟩) (fun p e Rm s m args below meth c cells slots Qs F als H locs hl v1 hW hS kk => lv_ineg F.1 F.2.1 hd (kk als hl))
theorem aw_lneg {x : Int64} (hd : Dc M pc (.lneg) 1 pc2) (k : AWq l E d M Z0 pc2 ls (vl (-x) :: st) I L R Z Q) : AWq l E d M Z0 pc ls (vl x :: st) I L R Z Q := by
  obtain ⟨hd, rfl⟩ := hd
  exact k.lift (fun v1 v2 => ⟨vc1 trivial (vt1 v1), v2⟩) (fun p e Rm s m args below meth c cells slots Qs F als H locs hl v1 hW hS kk => lv_lneg F.1 F.2.1 hd (kk als hl))
theorem aw_i2l {x : Int32} (hd : Dc M pc (.i2l) 1 pc2) (k : AWq l E d M Z0 pc2 ls (vl (x.toInt64) :: st) I L R Z Q) : AWq l E d M Z0 pc ls (vi x :: st) I L R Z Q := by
  obtain ⟨hd, rfl⟩ := hd
  exact k.lift (fun v1 v2 => ⟨vc1 trivial (vt1 v1), v2⟩) (fun p e Rm s m args below meth c cells slots Qs F als H locs hl v1 hW hS kk => lv_i2l F.1 F.2.1 hd rfl (kk als hl))
theorem aw_i2b {x : Int32} (hd : Dc M pc (.i2b) 1 pc2) (k : AWq l E d M Z0 pc2 ls (vi (x.toInt8.toInt32) :: st) I L R Z Q) : AWq l E d M Z0 pc ls (vi x :: st) I L R Z Q := by
  obtain ⟨hd, rfl⟩ := hd
  exact k.lift (fun v1 v2 => ⟨vc1 trivial (vt1 v1), v2⟩) (fun p e Rm s m args below meth c cells slots Qs F als H locs hl v1 hW hS kk => lv_i2b F.1 F.2.1 hd rfl (kk als hl))
theorem aw_i2s {x : Int32} (hd : Dc M pc (.i2s) 1 pc2) (k : AWq l E d M Z0 pc2 ls (vi (x.toInt16.toInt32) :: st) I L R Z Q) : AWq l E d M Z0 pc ls (vi x :: st) I L R Z Q := by
  obtain ⟨hd, rfl⟩ := hd
  exact k.lift (fun v1 v2 => ⟨vc1 trivial (vt1 v1), v2⟩) (fun p e Rm s m args below meth c cells slots Qs F als H locs hl v1 hW hS kk => lv_i2s F.1 F.2.1 hd rfl (kk als hl))
theorem aw_i2c {x : Int32} (hd : Dc M pc (.i2c) 1 pc2) (k : AWq l E d M Z0 pc2 ls (vi (x.toUInt32 % 65536).toInt32 :: st) I L R Z Q) : AWq l E d M Z0 pc ls (vi x :: st) I L R Z Q := by
  obtain ⟨hd, rfl⟩ := hd
  exact k.lift (fun v1 v2 => ⟨vc1 trivial (vt1 v1), v2⟩) (fun p e Rm s m args below meth c cells slots Qs F als H locs hl v1 hW hS kk => lv_i2c F.1 F.2.1 hd rfl (kk als hl))
theorem aw_l2i {x : Int64} (hd : Dc M pc (.l2i) 1 pc2) (k : AWq l E d M Z0 pc2 ls (vi (x.toInt32) :: st) I L R Z Q) : AWq l E d M Z0 pc ls (vl x :: st) I L R Z Q := by
  obtain ⟨hd, rfl⟩ := hd
  exact k.lift (fun v1 v2 => ⟨vc1 trivial (vt1 v1), v2⟩) (fun p e Rm s m args below meth c cells slots Qs F als H locs hl v1 hW hS kk => lv_l2i F.1 F.2.1 hd rfl (kk als hl))
theorem aw_iconst {n : Int} {v : Int32} (hd : Dc M pc (.iconst n) 1 pc2) (hv : Int32.ofInt n = v) (k : AWq l E d M Z0 pc2 ls (vi v :: st) I L R Z Q) : AWq l E d M Z0 pc ls st I L R Z Q := by
  obtain ⟨hd, rfl⟩ := hd
  exact k.lift (fun v1 v2 => ⟨vc1 trivial v1, v2⟩) (fun p e Rm s m args below meth c cells slots Qs F als H locs hl v1 hW hS kk => lv_iconst F.1 F.2.1 hd hv (kk als hl))
theorem aw_bipush {n : Int} {v : Int32} (hd : Dc M pc (.bipush n) 2 pc2) (hv : (Int8.ofInt n).toInt32 = v) (k : AWq l E d M Z0 pc2 ls (vi v :: st) I L R Z Q) : AWq l E d M Z0 pc ls st I L R Z Q := by
  obtain ⟨hd, rfl⟩ := hd
  exact k.lift (fun v1 v2 => ⟨vc1 trivial v1, v2⟩) (fun p e Rm s m args below meth c cells slots Qs F als H locs hl v1 hW hS kk => lv_bipush F.1 F.2.1 hd hv (kk als hl))
theorem aw_sipush {n : Int} {v : Int32} (hd : Dc M pc (.sipush n) 3 pc2) (hv : (Int16.ofInt n).toInt32 = v) (k : AWq l E d M Z0 pc2 ls (vi v :: st) I L R Z Q) : AWq l E d M Z0 pc ls st I L R Z Q := by
  obtain ⟨hd, rfl⟩ := hd
  exact k.lift (fun v1 v2 => ⟨vc1 trivial v1, v2⟩) (fun p e Rm s m args below meth c cells slots Qs F als H locs hl v1 hW hS kk => lv_sipush F.1 F.2.1 hd hv (kk als hl))
theorem aw_lconst {n : Fin 2} {v : Int64} (hd : Dc M pc (.lconst n) 1 pc2) (hv : Int64.ofNat (n : Nat) = v) (k : AWq l E d M Z0 pc2 ls (vl v :: st) I L R Z Q) : AWq l E d M Z0 pc ls st I L R Z Q := by
  obtain ⟨hd, rfl⟩ := hd
  exact k.lift (fun v1 v2 => ⟨vc1 trivial v1, v2⟩) (fun p e Rm s m args below meth c cells slots Qs F als H locs hl v1 hW hS kk => lv_lconst F.1 F.2.1 hd hv (kk als hl))
theorem aw_anull (hd : Dc M pc (.aconst_null) 1 pc2) (k : AWq l E d M Z0 pc2 ls (vn :: st) I L R Z Q) : AWq l E d M Z0 pc ls st I L R Z Q := by
  obtain ⟨hd, rfl⟩ := hd
  exact k.lift (fun v1 v2 => ⟨vc1 trivial v1, v2⟩) (fun p e Rm s m args below meth c cells slots Qs F als H locs hl v1 hW hS kk => lv_null F.1 F.2.1 hd (kk als hl))
theorem aw_ldc {idx : Nat} {v : Int32} (hd : Dc M pc (.ldc idx) 2 pc2) (hc : Cond.constant M.1.cls idx v ∈ G) (k : AWq l E d M Z0 pc2 ls (vi v :: st) I L R Z Q) : AWq l E d M Z0 pc ls st I L R Z Q := by
  obtain ⟨hd, rfl⟩ := hd
  exact k.lift (fun v1 v2 => ⟨vc1 trivial v1, v2⟩) (fun p e Rm s m args below meth c cells slots Qs F als H locs hl v1 hW hS kk => lv_ldc F.1 F.2.1 F.2.2.2.1 (F.2.2.2.2.1 _ hc) hd (kk als hl))
theorem aw_ldcw {idx : Nat} {v : Int32} (hd : Dc M pc (.ldc_w idx) 3 pc2) (hc : Cond.constant M.1.cls idx v ∈ G) (k : AWq l E d M Z0 pc2 ls (vi v :: st) I L R Z Q) : AWq l E d M Z0 pc ls st I L R Z Q := by
  obtain ⟨hd, rfl⟩ := hd
  exact k.lift (fun v1 v2 => ⟨vc1 trivial v1, v2⟩) (fun p e Rm s m args below meth c cells slots Qs F als H locs hl v1 hW hS kk => lv_ldcw F.1 F.2.1 F.2.2.2.1 (F.2.2.2.2.1 _ hc) hd (kk als hl))
theorem aw_ldc2 {idx : Nat} {v : Int64} (hd : Dc M pc (.ldc2_w idx) 3 pc2) (hc : Cond.constantLong M.1.cls idx v ∈ G) (k : AWq l E d M Z0 pc2 ls (vl v :: st) I L R Z Q) : AWq l E d M Z0 pc ls st I L R Z Q := by
  obtain ⟨hd, rfl⟩ := hd
  exact k.lift (fun v1 v2 => ⟨vc1 trivial v1, v2⟩) (fun p e Rm s m args below meth c cells slots Qs F als H locs hl v1 hW hS kk => lv_ldc2 F.1 F.2.1 F.2.2.2.1 (F.2.2.2.2.1 _ hc) hd (kk als hl))
theorem aw_dup {a : AV} (hd : Dc M pc (.dup) 1 pc2) (ha : isLg (some a) = false := by rfl) (k : AWq l E d M Z0 pc2 ls (a :: a :: st) I L R Z Q) : AWq l E d M Z0 pc ls (a :: st) I L R Z Q := by
  obtain ⟨hd, rfl⟩ := hd
  exact k.lift (fun v1 v2 => ⟨vc1 (vh1 v1) v1, v2⟩) (fun p e Rm s m args below meth c cells slots Qs F als H locs hl v1 hW hS kk => lv_dup F.1 F.2.1 hd (cat1 E ha) (kk als hl))
theorem aw_pop {a : AV} (hd : Dc M pc (.pop) 1 pc2) (ha : isLg (some a) = false := by rfl) (k : AWq l E d M Z0 pc2 ls st I L R Z Q) : AWq l E d M Z0 pc ls (a :: st) I L R Z Q := by
  obtain ⟨hd, rfl⟩ := hd
  exact k.lift (fun v1 v2 => ⟨vt1 v1, v2⟩) (fun p e Rm s m args below meth c cells slots Qs F als H locs hl v1 hW hS kk => lv_pop F.1 F.2.1 hd (cat1 E ha) (kk als hl))
theorem aw_dup2 {a b : AV} (hd : Dc M pc (.dup2) 1 pc2) (ha : isLg (some a) = false := by rfl) (hb : isLg (some b) = false := by rfl) (k : AWq l E d M Z0 pc2 ls (a :: b :: a :: b :: st) I L R Z Q) : AWq l E d M Z0 pc ls (a :: b :: st) I L R Z Q := by
  obtain ⟨hd, rfl⟩ := hd
  exact k.lift (fun v1 v2 => ⟨vc1 (vh1 v1) (vc1 (vh1 (vt1 v1)) v1), v2⟩) (fun p e Rm s m args below meth c cells slots Qs F als H locs hl v1 hW hS kk => lv_dup2_11 F.1 F.2.1 hd (cat1 E ha) (cat1 E hb) (kk als hl))
theorem aw_iload_n {j : Fin 4} {x : Int32} (hd : Dc M pc (.iload_n j) 1 pc2) (hg : ls[(j : Nat)]? = some (some (vi x))) (k : AWq l E d M Z0 pc2 ls (vi x :: st) I L R Z Q) : AWq l E d M Z0 pc ls st I L R Z Q := by
  obtain ⟨hd, rfl⟩ := hd
  exact k.lift (fun v1 v2 => ⟨vc1 trivial v1, v2⟩) (fun p e Rm s m args below meth c cells slots Qs F als H locs hl v1 hW hS kk => lv_iload_n F.1 F.2.1 hd rfl (hl.get hg) (kk als hl))
theorem aw_iload {j : Nat} {x : Int32} (hd : Dc M pc (.iload j) 2 pc2) (hg : ls[j]? = some (some (vi x))) (k : AWq l E d M Z0 pc2 ls (vi x :: st) I L R Z Q) : AWq l E d M Z0 pc ls st I L R Z Q := by
  obtain ⟨hd, rfl⟩ := hd
  exact k.lift (fun v1 v2 => ⟨vc1 trivial v1, v2⟩) (fun p e Rm s m args below meth c cells slots Qs F als H locs hl v1 hW hS kk => lv_iload F.1 F.2.1 hd (hl.get hg) (kk als hl))
theorem aw_lload_n {j : Fin 4} {x : Int64} (hd : Dc M pc (.lload_n j) 1 pc2) (hg : ls[(j : Nat)]? = some (some (vl x))) (k : AWq l E d M Z0 pc2 ls (vl x :: st) I L R Z Q) : AWq l E d M Z0 pc ls st I L R Z Q := by
  obtain ⟨hd, rfl⟩ := hd
  exact k.lift (fun v1 v2 => ⟨vc1 trivial v1, v2⟩) (fun p e Rm s m args below meth c cells slots Qs F als H locs hl v1 hW hS kk => lv_lload_n F.1 F.2.1 hd rfl (hl.get hg) (kk als hl))
theorem aw_lload {j : Nat} {x : Int64} (hd : Dc M pc (.lload j) 2 pc2) (hg : ls[j]? = some (some (vl x))) (k : AWq l E d M Z0 pc2 ls (vl x :: st) I L R Z Q) : AWq l E d M Z0 pc ls st I L R Z Q := by
  obtain ⟨hd, rfl⟩ := hd
  exact k.lift (fun v1 v2 => ⟨vc1 trivial v1, v2⟩) (fun p e Rm s m args below meth c cells slots Qs F als H locs hl v1 hW hS kk => lv_lload F.1 F.2.1 hd (hl.get hg) (kk als hl))
theorem aw_aload_n {j : Fin 4} {t i : Nat} (hd : Dc M pc (.aload_n j) 1 pc2) (hg : ls[(j : Nat)]? = some (some (vr t i))) (k : AWq l E d M Z0 pc2 ls (vr t i :: st) I L R Z Q) : AWq l E d M Z0 pc ls st I L R Z Q := by
  obtain ⟨hd, rfl⟩ := hd
  exact k.lift (fun v1 v2 => ⟨vc1 (v2 _ (List.mem_of_getElem? hg)) v1, v2⟩) (fun p e Rm s m args below meth c cells slots Qs F als H locs hl v1 hW hS kk => lv_aload_n F.1 F.2.1 hd rfl (hl.get hg) (kk als hl))
theorem aw_aload {j : Nat} {t i : Nat} (hd : Dc M pc (.aload j) 2 pc2) (hg : ls[j]? = some (some (vr t i))) (k : AWq l E d M Z0 pc2 ls (vr t i :: st) I L R Z Q) : AWq l E d M Z0 pc ls st I L R Z Q := by
  obtain ⟨hd, rfl⟩ := hd
  exact k.lift (fun v1 v2 => ⟨vc1 (v2 _ (List.mem_of_getElem? hg)) v1, v2⟩) (fun p e Rm s m args below meth c cells slots Qs F als H locs hl v1 hW hS kk => lv_aload F.1 F.2.1 hd (hl.get hg) (kk als hl))
theorem aw_istore_n {j : Fin 4} {x : Int32} (hd : Dc M pc (.istore_n j) 1 pc2) (hj : (j : Nat) < M.2.2.1) (hp : ∀ q, q + 1 = (j : Nat) → isLg (ls.getD q none) = false) (k : AWq l E d M Z0 pc2 (ls.set (j : Nat) (some (vi x))) st I L R Z Q) : AWq l E d M Z0 pc ls (vi x :: st) I L R Z Q := by
  obtain ⟨hd, rfl⟩ := hd
  exact k.lift (fun v1 v2 => ⟨vt1 v1, vset v2 (vh1 v1)⟩) (fun p e Rm s m args below meth c cells slots Qs F als H locs hl v1 hW hS kk => lv_istore_n F.1 F.2.1 hd rfl hl.1 hj rfl (fun als2 hl2 => kk als2 (hl.st1 (v := vi x) hp hl2)))
theorem aw_istore {j : Nat} {x : Int32} (hd : Dc M pc (.istore j) 2 pc2) (hj : j < M.2.2.1) (hp : ∀ q, q + 1 = j → isLg (ls.getD q none) = false) (k : AWq l E d M Z0 pc2 (ls.set j (some (vi x))) st I L R Z Q) : AWq l E d M Z0 pc ls (vi x :: st) I L R Z Q := by
  obtain ⟨hd, rfl⟩ := hd
  exact k.lift (fun v1 v2 => ⟨vt1 v1, vset v2 (vh1 v1)⟩) (fun p e Rm s m args below meth c cells slots Qs F als H locs hl v1 hW hS kk => lv_istore F.1 F.2.1 hd hl.1 hj rfl (fun als2 hl2 => kk als2 (hl.st1 (v := vi x) hp hl2)))
theorem aw_astore_n {j : Fin 4} {t i : Nat} (hd : Dc M pc (.astore_n j) 1 pc2) (hj : (j : Nat) < M.2.2.1) (hp : ∀ q, q + 1 = (j : Nat) → isLg (ls.getD q none) = false) (k : AWq l E d M Z0 pc2 (ls.set (j : Nat) (some (vr t i))) st I L R Z Q) : AWq l E d M Z0 pc ls (vr t i :: st) I L R Z Q := by
  obtain ⟨hd, rfl⟩ := hd
  exact k.lift (fun v1 v2 => ⟨vt1 v1, vset v2 (vh1 v1)⟩) (fun p e Rm s m args below meth c cells slots Qs F als H locs hl v1 hW hS kk => lv_astore_n F.1 F.2.1 hd rfl hl.1 hj rfl (fun als2 hl2 => kk als2 (hl.st1 (v := vr t i) hp hl2)))
theorem aw_astore {j : Nat} {t i : Nat} (hd : Dc M pc (.astore j) 2 pc2) (hj : j < M.2.2.1) (hp : ∀ q, q + 1 = j → isLg (ls.getD q none) = false) (k : AWq l E d M Z0 pc2 (ls.set j (some (vr t i))) st I L R Z Q) : AWq l E d M Z0 pc ls (vr t i :: st) I L R Z Q := by
  obtain ⟨hd, rfl⟩ := hd
  exact k.lift (fun v1 v2 => ⟨vt1 v1, vset v2 (vh1 v1)⟩) (fun p e Rm s m args below meth c cells slots Qs F als H locs hl v1 hW hS kk => lv_astore F.1 F.2.1 hd hl.1 hj rfl (fun als2 hl2 => kk als2 (hl.st1 (v := vr t i) hp hl2)))
theorem aw_lstore_n {j : Fin 4} {x : Int64} (hd : Dc M pc (.lstore_n j) 1 pc2) (hj : (j : Nat) + 1 < M.2.2.1) (hp : ∀ q, q + 1 = (j : Nat) → isLg (ls.getD q none) = false) (k : AWq l E d M Z0 pc2 ((ls.set (j : Nat) (some (vl x))).set ((j : Nat) + 1) none) st I L R Z Q) : AWq l E d M Z0 pc ls (vl x :: st) I L R Z Q := by
  obtain ⟨hd, rfl⟩ := hd
  exact k.lift (fun v1 v2 => ⟨vt1 v1, vsetN (vset v2 (vh1 v1))⟩) (fun p e Rm s m args below meth c cells slots Qs F als H locs hl v1 hW hS kk => lv_lstore_n F.1 F.2.1 hd rfl hl.1 hj rfl (fun als2 hl2 => kk als2 (hl.st2 (v := vl x) hp hl2)))
theorem aw_lstore {j : Nat} {x : Int64} (hd : Dc M pc (.lstore j) 2 pc2) (hj : j + 1 < M.2.2.1) (hp : ∀ q, q + 1 = j → isLg (ls.getD q none) = false) (k : AWq l E d M Z0 pc2 ((ls.set j (some (vl x))).set (j + 1) none) st I L R Z Q) : AWq l E d M Z0 pc ls (vl x :: st) I L R Z Q := by
  obtain ⟨hd, rfl⟩ := hd
  exact k.lift (fun v1 v2 => ⟨vt1 v1, vsetN (vset v2 (vh1 v1))⟩) (fun p e Rm s m args below meth c cells slots Qs F als H locs hl v1 hW hS kk => lv_lstore F.1 F.2.1 hd hl.1 hj rfl (fun als2 hl2 => kk als2 (hl.st2 (v := vl x) hp hl2)))
theorem aw_iinc {j : Nat} {n : Int} {x v : Int32} (hd : Dc M pc (.iinc j n) 3 pc2) (hg : ls[j]? = some (some (vi x))) (hj : j < M.2.2.1) (hp : ∀ q, q + 1 = j → isLg (ls.getD q none) = false) (hv : x + Int32.ofInt n = v) (k : AWq l E d M Z0 pc2 (ls.set j (some (vi v))) st I L R Z Q) : AWq l E d M Z0 pc ls st I L R Z Q := by
  obtain ⟨hd, rfl⟩ := hd
  refine k.lift (fun v1 v2 => ⟨v1, vset v2 trivial⟩) (fun p e Rm s m args below meth c cells slots Qs F als H locs hl v1 hW hS kk => ?_)
  have h1 : (j, vi x) ∈ lvP ls 0 := (lvP_mem ls 0 j).mpr ⟨j, by omega, hg⟩
  obtain ⟨q, hq⟩ := List.getElem?_of_mem (List.mem_map.mpr ⟨(j, vi x), h1, rfl⟩ : (j, cv E (vi x)) ∈ (lvP ls 0).map fun q => (q.1, cv E q.2))
  exact lv_iinc F.1 F.2.1 hd hl.1 hq hv hj rfl (fun als2 hl2 => kk als2 (hl.st1 (v := vi v) hp hl2))
theorem aw_icmp_eq {x y : Int32} {off : Int} (hd : Db M pc (.if_icmp .eq off) off tgt pc2) (kt : x = y → AWq l E d M Z0 tgt ls st I L R Z Q) (kf : ¬ x = y → AWq l E d M Z0 pc2 ls st I L R Z Q) : AWq l E d M Z0 pc ls (vi y :: vi x :: st) I L R Z Q := by
  obtain ⟨hd, rfl, ht⟩ := hd
  by_cases hc : x = y
  · exact (kt hc).lift (fun v1 v2 => ⟨vt1 (vt1 v1), v2⟩) (fun p e Rm s m args below meth c cells slots Qs F als H locs hl v1 hW hS kk => lv_icmp_eq F.1 F.2.1 hd ht (fun _ => kk als hl) (fun h => absurd hc h))
  · exact (kf hc).lift (fun v1 v2 => ⟨vt1 (vt1 v1), v2⟩) (fun p e Rm s m args below meth c cells slots Qs F als H locs hl v1 hW hS kk => lv_icmp_eq F.1 F.2.1 hd ht (fun h => absurd h hc) (fun _ => kk als hl))
theorem aw_icmp_ne {x y : Int32} {off : Int} (hd : Db M pc (.if_icmp .ne off) off tgt pc2) (kt : ¬ x = y → AWq l E d M Z0 tgt ls st I L R Z Q) (kf : x = y → AWq l E d M Z0 pc2 ls st I L R Z Q) : AWq l E d M Z0 pc ls (vi y :: vi x :: st) I L R Z Q := by
  obtain ⟨hd, rfl, ht⟩ := hd
  by_cases hc : x = y
  · exact (kf hc).lift (fun v1 v2 => ⟨vt1 (vt1 v1), v2⟩) (fun p e Rm s m args below meth c cells slots Qs F als H locs hl v1 hW hS kk => lv_icmp_ne F.1 F.2.1 hd ht (fun h => absurd hc h) (fun _ => kk als hl))
  · exact (kt hc).lift (fun v1 v2 => ⟨vt1 (vt1 v1), v2⟩) (fun p e Rm s m args below meth c cells slots Qs F als H locs hl v1 hW hS kk => lv_icmp_ne F.1 F.2.1 hd ht (fun _ => kk als hl) (fun h => absurd h hc))
theorem aw_icmp_lt {x y : Int32} {off : Int} (hd : Db M pc (.if_icmp .lt off) off tgt pc2) (kt : x < y → AWq l E d M Z0 tgt ls st I L R Z Q) (kf : ¬ x < y → AWq l E d M Z0 pc2 ls st I L R Z Q) : AWq l E d M Z0 pc ls (vi y :: vi x :: st) I L R Z Q := by
  obtain ⟨hd, rfl, ht⟩ := hd
  by_cases hc : x < y
  · exact (kt hc).lift (fun v1 v2 => ⟨vt1 (vt1 v1), v2⟩) (fun p e Rm s m args below meth c cells slots Qs F als H locs hl v1 hW hS kk => lv_icmp_lt F.1 F.2.1 hd ht (fun _ => kk als hl) (fun h => absurd hc h))
  · exact (kf hc).lift (fun v1 v2 => ⟨vt1 (vt1 v1), v2⟩) (fun p e Rm s m args below meth c cells slots Qs F als H locs hl v1 hW hS kk => lv_icmp_lt F.1 F.2.1 hd ht (fun h => absurd h hc) (fun _ => kk als hl))
theorem aw_icmp_ge {x y : Int32} {off : Int} (hd : Db M pc (.if_icmp .ge off) off tgt pc2) (kt : y ≤ x → AWq l E d M Z0 tgt ls st I L R Z Q) (kf : ¬ y ≤ x → AWq l E d M Z0 pc2 ls st I L R Z Q) : AWq l E d M Z0 pc ls (vi y :: vi x :: st) I L R Z Q := by
  obtain ⟨hd, rfl, ht⟩ := hd
  by_cases hc : y ≤ x
  · exact (kt hc).lift (fun v1 v2 => ⟨vt1 (vt1 v1), v2⟩) (fun p e Rm s m args below meth c cells slots Qs F als H locs hl v1 hW hS kk => lv_icmp_ge F.1 F.2.1 hd ht (fun _ => kk als hl) (fun h => absurd hc h))
  · exact (kf hc).lift (fun v1 v2 => ⟨vt1 (vt1 v1), v2⟩) (fun p e Rm s m args below meth c cells slots Qs F als H locs hl v1 hW hS kk => lv_icmp_ge F.1 F.2.1 hd ht (fun h => absurd h hc) (fun _ => kk als hl))
theorem aw_icmp_gt {x y : Int32} {off : Int} (hd : Db M pc (.if_icmp .gt off) off tgt pc2) (kt : y < x → AWq l E d M Z0 tgt ls st I L R Z Q) (kf : ¬ y < x → AWq l E d M Z0 pc2 ls st I L R Z Q) : AWq l E d M Z0 pc ls (vi y :: vi x :: st) I L R Z Q := by
  obtain ⟨hd, rfl, ht⟩ := hd
  by_cases hc : y < x
  · exact (kt hc).lift (fun v1 v2 => ⟨vt1 (vt1 v1), v2⟩) (fun p e Rm s m args below meth c cells slots Qs F als H locs hl v1 hW hS kk => lv_icmp_gt F.1 F.2.1 hd ht (fun _ => kk als hl) (fun h => absurd hc h))
  · exact (kf hc).lift (fun v1 v2 => ⟨vt1 (vt1 v1), v2⟩) (fun p e Rm s m args below meth c cells slots Qs F als H locs hl v1 hW hS kk => lv_icmp_gt F.1 F.2.1 hd ht (fun h => absurd h hc) (fun _ => kk als hl))
theorem aw_icmp_le {x y : Int32} {off : Int} (hd : Db M pc (.if_icmp .le off) off tgt pc2) (kt : x ≤ y → AWq l E d M Z0 tgt ls st I L R Z Q) (kf : ¬ x ≤ y → AWq l E d M Z0 pc2 ls st I L R Z Q) : AWq l E d M Z0 pc ls (vi y :: vi x :: st) I L R Z Q := by
  obtain ⟨hd, rfl, ht⟩ := hd
  by_cases hc : x ≤ y
  · exact (kt hc).lift (fun v1 v2 => ⟨vt1 (vt1 v1), v2⟩) (fun p e Rm s m args below meth c cells slots Qs F als H locs hl v1 hW hS kk => lv_icmp_le F.1 F.2.1 hd ht (fun _ => kk als hl) (fun h => absurd hc h))
  · exact (kf hc).lift (fun v1 v2 => ⟨vt1 (vt1 v1), v2⟩) (fun p e Rm s m args below meth c cells slots Qs F als H locs hl v1 hW hS kk => lv_icmp_le F.1 F.2.1 hd ht (fun h => absurd h hc) (fun _ => kk als hl))
theorem aw_if_eq {x : Int32} {off : Int} (hd : Db M pc (.ifCond .eq off) off tgt pc2) (kt : x = 0 → AWq l E d M Z0 tgt ls st I L R Z Q) (kf : ¬ x = 0 → AWq l E d M Z0 pc2 ls st I L R Z Q) : AWq l E d M Z0 pc ls (vi x :: st) I L R Z Q := by
  obtain ⟨hd, rfl, ht⟩ := hd
  by_cases hc : x = 0
  · exact (kt hc).lift (fun v1 v2 => ⟨vt1 v1, v2⟩) (fun p e Rm s m args below meth c cells slots Qs F als H locs hl v1 hW hS kk => lv_if_eq F.1 F.2.1 hd ht (fun _ => kk als hl) (fun h => absurd hc h))
  · exact (kf hc).lift (fun v1 v2 => ⟨vt1 v1, v2⟩) (fun p e Rm s m args below meth c cells slots Qs F als H locs hl v1 hW hS kk => lv_if_eq F.1 F.2.1 hd ht (fun h => absurd h hc) (fun _ => kk als hl))
theorem aw_if_ne {x : Int32} {off : Int} (hd : Db M pc (.ifCond .ne off) off tgt pc2) (kt : ¬ x = 0 → AWq l E d M Z0 tgt ls st I L R Z Q) (kf : x = 0 → AWq l E d M Z0 pc2 ls st I L R Z Q) : AWq l E d M Z0 pc ls (vi x :: st) I L R Z Q := by
  obtain ⟨hd, rfl, ht⟩ := hd
  by_cases hc : x = 0
  · exact (kf hc).lift (fun v1 v2 => ⟨vt1 v1, v2⟩) (fun p e Rm s m args below meth c cells slots Qs F als H locs hl v1 hW hS kk => lv_if_ne F.1 F.2.1 hd ht (fun h => absurd hc h) (fun _ => kk als hl))
  · exact (kt hc).lift (fun v1 v2 => ⟨vt1 v1, v2⟩) (fun p e Rm s m args below meth c cells slots Qs F als H locs hl v1 hW hS kk => lv_if_ne F.1 F.2.1 hd ht (fun _ => kk als hl) (fun h => absurd h hc))
theorem aw_if_lt {x : Int32} {off : Int} (hd : Db M pc (.ifCond .lt off) off tgt pc2) (kt : x < 0 → AWq l E d M Z0 tgt ls st I L R Z Q) (kf : ¬ x < 0 → AWq l E d M Z0 pc2 ls st I L R Z Q) : AWq l E d M Z0 pc ls (vi x :: st) I L R Z Q := by
  obtain ⟨hd, rfl, ht⟩ := hd
  by_cases hc : x < 0
  · exact (kt hc).lift (fun v1 v2 => ⟨vt1 v1, v2⟩) (fun p e Rm s m args below meth c cells slots Qs F als H locs hl v1 hW hS kk => lv_if_lt F.1 F.2.1 hd ht (fun _ => kk als hl) (fun h => absurd hc h))
  · exact (kf hc).lift (fun v1 v2 => ⟨vt1 v1, v2⟩) (fun p e Rm s m args below meth c cells slots Qs F als H locs hl v1 hW hS kk => lv_if_lt F.1 F.2.1 hd ht (fun h => absurd h hc) (fun _ => kk als hl))
theorem aw_if_ge {x : Int32} {off : Int} (hd : Db M pc (.ifCond .ge off) off tgt pc2) (kt : 0 ≤ x → AWq l E d M Z0 tgt ls st I L R Z Q) (kf : ¬ 0 ≤ x → AWq l E d M Z0 pc2 ls st I L R Z Q) : AWq l E d M Z0 pc ls (vi x :: st) I L R Z Q := by
  obtain ⟨hd, rfl, ht⟩ := hd
  by_cases hc : 0 ≤ x
  · exact (kt hc).lift (fun v1 v2 => ⟨vt1 v1, v2⟩) (fun p e Rm s m args below meth c cells slots Qs F als H locs hl v1 hW hS kk => lv_if_ge F.1 F.2.1 hd ht (fun _ => kk als hl) (fun h => absurd hc h))
  · exact (kf hc).lift (fun v1 v2 => ⟨vt1 v1, v2⟩) (fun p e Rm s m args below meth c cells slots Qs F als H locs hl v1 hW hS kk => lv_if_ge F.1 F.2.1 hd ht (fun h => absurd h hc) (fun _ => kk als hl))
theorem aw_if_gt {x : Int32} {off : Int} (hd : Db M pc (.ifCond .gt off) off tgt pc2) (kt : 0 < x → AWq l E d M Z0 tgt ls st I L R Z Q) (kf : ¬ 0 < x → AWq l E d M Z0 pc2 ls st I L R Z Q) : AWq l E d M Z0 pc ls (vi x :: st) I L R Z Q := by
  obtain ⟨hd, rfl, ht⟩ := hd
  by_cases hc : 0 < x
  · exact (kt hc).lift (fun v1 v2 => ⟨vt1 v1, v2⟩) (fun p e Rm s m args below meth c cells slots Qs F als H locs hl v1 hW hS kk => lv_if_gt F.1 F.2.1 hd ht (fun _ => kk als hl) (fun h => absurd hc h))
  · exact (kf hc).lift (fun v1 v2 => ⟨vt1 v1, v2⟩) (fun p e Rm s m args below meth c cells slots Qs F als H locs hl v1 hW hS kk => lv_if_gt F.1 F.2.1 hd ht (fun h => absurd h hc) (fun _ => kk als hl))
theorem aw_if_le {x : Int32} {off : Int} (hd : Db M pc (.ifCond .le off) off tgt pc2) (kt : x ≤ 0 → AWq l E d M Z0 tgt ls st I L R Z Q) (kf : ¬ x ≤ 0 → AWq l E d M Z0 pc2 ls st I L R Z Q) : AWq l E d M Z0 pc ls (vi x :: st) I L R Z Q := by
  obtain ⟨hd, rfl, ht⟩ := hd
  by_cases hc : x ≤ 0
  · exact (kt hc).lift (fun v1 v2 => ⟨vt1 v1, v2⟩) (fun p e Rm s m args below meth c cells slots Qs F als H locs hl v1 hW hS kk => lv_if_le F.1 F.2.1 hd ht (fun _ => kk als hl) (fun h => absurd hc h))
  · exact (kf hc).lift (fun v1 v2 => ⟨vt1 v1, v2⟩) (fun p e Rm s m args below meth c cells slots Qs F als H locs hl v1 hW hS kk => lv_if_le F.1 F.2.1 hd ht (fun h => absurd h hc) (fun _ => kk als hl))
theorem aw_goto {off : Int} (hd : Db M pc (.goto off) off tgt pc2) (k : AWq l E d M Z0 tgt ls st I L R Z Q) : AWq l E d M Z0 pc ls st I L R Z Q :=
  k.lift (fun v1 v2 => ⟨v1, v2⟩) (fun p e Rm s m args below meth c cells slots Qs F als H locs hl v1 hW hS kk => lv_goto F.1 F.2.1 hd.1 hd.2.2 (kk als hl))
theorem aw_ifnull {t i : Nat} {off : Int} (hd : Db M pc (.ifnull off) off tgt pc2) (k : AWq l E d M Z0 pc2 ls st I L R Z Q) : AWq l E d M Z0 pc ls (vr t i :: st) I L R Z Q := by
  obtain ⟨hd, rfl, ht⟩ := hd
  exact k.lift (fun v1 v2 => ⟨vt1 v1, v2⟩) (fun p e Rm s m args below meth c cells slots Qs F als H locs hl v1 hW hS kk => lv_ifnull F.1 F.2.1 hd (kk als hl))
theorem aw_ifnullN {off : Int} (hd : Db M pc (.ifnull off) off tgt pc2) (k : AWq l E d M Z0 tgt ls st I L R Z Q) : AWq l E d M Z0 pc ls (vn :: st) I L R Z Q := by
  obtain ⟨hd, rfl, ht⟩ := hd
  exact k.lift (fun v1 v2 => ⟨vt1 v1, v2⟩) (fun p e Rm s m args below meth c cells slots Qs F als H locs hl v1 hW hS kk => lv_ifnullN F.1 F.2.1 hd ht (kk als hl))
theorem aw_ifnn {t i : Nat} {off : Int} (hd : Db M pc (.ifnonnull off) off tgt pc2) (k : AWq l E d M Z0 tgt ls st I L R Z Q) : AWq l E d M Z0 pc ls (vr t i :: st) I L R Z Q := by
  obtain ⟨hd, rfl, ht⟩ := hd
  exact k.lift (fun v1 v2 => ⟨vt1 v1, v2⟩) (fun p e Rm s m args below meth c cells slots Qs F als H locs hl v1 hW hS kk => lv_ifnonnull F.1 F.2.1 hd ht (kk als hl))
theorem aw_ifnnN {off : Int} (hd : Db M pc (.ifnonnull off) off tgt pc2) (k : AWq l E d M Z0 pc2 ls st I L R Z Q) : AWq l E d M Z0 pc ls (vn :: st) I L R Z Q := by
  obtain ⟨hd, rfl, ht⟩ := hd
  exact k.lift (fun v1 v2 => ⟨vt1 v1, v2⟩) (fun p e Rm s m args below meth c cells slots Qs F als H locs hl v1 hW hS kk => lv_ifnonnullN F.1 F.2.1 hd (kk als hl))
theorem aw_aloadN {j : Fin 4} (hd : Dc M pc (.aload_n j) 1 pc2) (hg : ls[(j : Nat)]? = some (some vn)) (k : AWq l E d M Z0 pc2 ls (vn :: st) I L R Z Q) : AWq l E d M Z0 pc ls st I L R Z Q := by
  obtain ⟨hd, rfl⟩ := hd
  exact k.lift (fun v1 v2 => ⟨vc1 trivial v1, v2⟩) (fun p e Rm s m args below meth c cells slots Qs F als H locs hl v1 hW hS kk => lv_aload_nN F.1 F.2.1 hd rfl (hl.get hg) (kk als hl))
theorem aw_astoreN {j : Fin 4} (hd : Dc M pc (.astore_n j) 1 pc2) (hj : (j : Nat) < M.2.2.1) (hp : ∀ q, q + 1 = (j : Nat) → isLg (ls.getD q none) = false) (k : AWq l E d M Z0 pc2 (ls.set (j : Nat) (some vn)) st I L R Z Q) : AWq l E d M Z0 pc ls (vn :: st) I L R Z Q := by
  obtain ⟨hd, rfl⟩ := hd
  exact k.lift (fun v1 v2 => ⟨vt1 v1, vset v2 trivial⟩) (fun p e Rm s m args below meth c cells slots Qs F als H locs hl v1 hW hS kk => lv_astore_nN F.1 F.2.1 hd rfl hl.1 hj rfl (fun als2 hl2 => kk als2 (hl.st1 (v := vn) hp hl2)))
theorem aw_tsIn {dflt lo hi : Int} {offs : Array Int} {len : Nat} {x : Int32} {off : Int} (hd : Dc M pc (.tableswitch dflt lo hi offs) len pc2) (h1 : ¬ x.toInt < lo) (h2 : ¬ hi < x.toInt) (ho : offs[(x.toInt - lo).toNat]? = some off) (ht : (pc : Int) + off = (tgt : Int)) (k : AWq l E d M Z0 tgt ls st I L R Z Q) : AWq l E d M Z0 pc ls (vi x :: st) I L R Z Q :=
  k.lift (fun v1 v2 => ⟨vt1 v1, v2⟩) (fun p e Rm s m args below meth c cells slots Qs F als H locs hl v1 hW hS kk => lv_tableIn F.1 F.2.1 hd.1 h1 h2 ho ht (kk als hl))
theorem aw_tsOut {dflt lo hi : Int} {offs : Array Int} {len : Nat} {x : Int32} (hd : Dc M pc (.tableswitch dflt lo hi offs) len pc2) (h : x.toInt < lo ∨ hi < x.toInt) (ht : (pc : Int) + dflt = (tgt : Int)) (k : AWq l E d M Z0 tgt ls st I L R Z Q) : AWq l E d M Z0 pc ls (vi x :: st) I L R Z Q :=
  k.lift (fun v1 v2 => ⟨vt1 v1, v2⟩) (fun p e Rm s m args below meth c cells slots Qs F als H locs hl v1 hW hS kk => lv_tableOut F.1 F.2.1 hd.1 h ht (kk als hl))
theorem aw_ist0 {x : Int32} {b : Option AV} {t : List (Option AV)} (hd : Dc M pc (.istore_n 0) 1 pc2) (k : AWq l E d M Z0 pc2 (some (vi x) :: t) st I L R Z Q) (hj : 0 < M.2.2.1 := by decide) : AWq l E d M Z0 pc (b :: t) (vi x :: st) I L R Z Q :=
  aw_istore_n (j := 0) hd hj (fun q hq => absurd hq (Nat.succ_ne_zero q)) k
theorem aw_ist0w {x : Int32} {b : Option AV} {t : List (Option AV)} (hd : Dc M pc (.istore 0) 2 pc2) (k : AWq l E d M Z0 pc2 (some (vi x) :: t) st I L R Z Q) (hj : 0 < M.2.2.1 := by decide) : AWq l E d M Z0 pc (b :: t) (vi x :: st) I L R Z Q :=
  aw_istore (j := 0) hd hj (fun q hq => absurd hq (Nat.succ_ne_zero q)) k
theorem aw_ast0 {r i : Nat} {b : Option AV} {t : List (Option AV)} (hd : Dc M pc (.astore_n 0) 1 pc2) (k : AWq l E d M Z0 pc2 (some (vr r i) :: t) st I L R Z Q) (hj : 0 < M.2.2.1 := by decide) : AWq l E d M Z0 pc (b :: t) (vr r i :: st) I L R Z Q :=
  aw_astore_n (j := 0) hd hj (fun q hq => absurd hq (Nat.succ_ne_zero q)) k
theorem aw_ast0w {r i : Nat} {b : Option AV} {t : List (Option AV)} (hd : Dc M pc (.astore 0) 2 pc2) (k : AWq l E d M Z0 pc2 (some (vr r i) :: t) st I L R Z Q) (hj : 0 < M.2.2.1 := by decide) : AWq l E d M Z0 pc (b :: t) (vr r i :: st) I L R Z Q :=
  aw_astore (j := 0) hd hj (fun q hq => absurd hq (Nat.succ_ne_zero q)) k
theorem aw_inc0 {x v : Int32} {n : Int} {t : List (Option AV)} (hd : Dc M pc (.iinc 0 n) 3 pc2) (hv : x + Int32.ofInt n = v) (k : AWq l E d M Z0 pc2 (some (vi v) :: t) st I L R Z Q) (hj : 0 < M.2.2.1 := by decide) : AWq l E d M Z0 pc (some (vi x) :: t) st I L R Z Q :=
  aw_iinc hd rfl hj (fun q hq => absurd hq (Nat.succ_ne_zero q)) hv k
theorem aw_lst0 {x : Int64} {b b2 : Option AV} {t : List (Option AV)} (hd : Dc M pc (.lstore_n 0) 1 pc2) (k : AWq l E d M Z0 pc2 (some (vl x) :: none :: t) st I L R Z Q) (hj : 0 + 1 < M.2.2.1 := by decide) : AWq l E d M Z0 pc (b :: b2 :: t) (vl x :: st) I L R Z Q :=
  aw_lstore_n (j := 0) hd hj (fun q hq => absurd hq (Nat.succ_ne_zero q)) k
theorem aw_lst0w {x : Int64} {b b2 : Option AV} {t : List (Option AV)} (hd : Dc M pc (.lstore 0) 2 pc2) (k : AWq l E d M Z0 pc2 (some (vl x) :: none :: t) st I L R Z Q) (hj : 0 + 1 < M.2.2.1 := by decide) : AWq l E d M Z0 pc (b :: b2 :: t) (vl x :: st) I L R Z Q :=
  aw_lstore (j := 0) hd hj (fun q hq => absurd hq (Nat.succ_ne_zero q)) k
theorem aw_ist1 {x : Int32} {a0 b : Option AV} {t : List (Option AV)} (hd : Dc M pc (.istore_n 1) 1 pc2) (k : AWq l E d M Z0 pc2 (a0 :: some (vi x) :: t) st I L R Z Q) (hj : 1 < M.2.2.1 := by decide) (hp : isLg a0 = false := by rfl) : AWq l E d M Z0 pc (a0 :: b :: t) (vi x :: st) I L R Z Q :=
  aw_istore_n (j := 1) hd hj (hpS (k := 0) rfl hp) k
theorem aw_ist1w {x : Int32} {a0 b : Option AV} {t : List (Option AV)} (hd : Dc M pc (.istore 1) 2 pc2) (k : AWq l E d M Z0 pc2 (a0 :: some (vi x) :: t) st I L R Z Q) (hj : 1 < M.2.2.1 := by decide) (hp : isLg a0 = false := by rfl) : AWq l E d M Z0 pc (a0 :: b :: t) (vi x :: st) I L R Z Q :=
  aw_istore (j := 1) hd hj (hpS (k := 0) rfl hp) k
theorem aw_ast1 {r i : Nat} {a0 b : Option AV} {t : List (Option AV)} (hd : Dc M pc (.astore_n 1) 1 pc2) (k : AWq l E d M Z0 pc2 (a0 :: some (vr r i) :: t) st I L R Z Q) (hj : 1 < M.2.2.1 := by decide) (hp : isLg a0 = false := by rfl) : AWq l E d M Z0 pc (a0 :: b :: t) (vr r i :: st) I L R Z Q :=
  aw_astore_n (j := 1) hd hj (hpS (k := 0) rfl hp) k
theorem aw_ast1w {r i : Nat} {a0 b : Option AV} {t : List (Option AV)} (hd : Dc M pc (.astore 1) 2 pc2) (k : AWq l E d M Z0 pc2 (a0 :: some (vr r i) :: t) st I L R Z Q) (hj : 1 < M.2.2.1 := by decide) (hp : isLg a0 = false := by rfl) : AWq l E d M Z0 pc (a0 :: b :: t) (vr r i :: st) I L R Z Q :=
  aw_astore (j := 1) hd hj (hpS (k := 0) rfl hp) k
theorem aw_inc1 {x v : Int32} {n : Int} {a0 : Option AV} {t : List (Option AV)} (hd : Dc M pc (.iinc 1 n) 3 pc2) (hv : x + Int32.ofInt n = v) (k : AWq l E d M Z0 pc2 (a0 :: some (vi v) :: t) st I L R Z Q) (hj : 1 < M.2.2.1 := by decide) (hp : isLg a0 = false := by rfl) : AWq l E d M Z0 pc (a0 :: some (vi x) :: t) st I L R Z Q :=
  aw_iinc hd rfl hj (hpS (k := 0) rfl hp) hv k
theorem aw_lst1 {x : Int64} {a0 b b2 : Option AV} {t : List (Option AV)} (hd : Dc M pc (.lstore_n 1) 1 pc2) (k : AWq l E d M Z0 pc2 (a0 :: some (vl x) :: none :: t) st I L R Z Q) (hj : 1 + 1 < M.2.2.1 := by decide) (hp : isLg a0 = false := by rfl) : AWq l E d M Z0 pc (a0 :: b :: b2 :: t) (vl x :: st) I L R Z Q :=
  aw_lstore_n (j := 1) hd hj (hpS (k := 0) rfl hp) k
theorem aw_lst1w {x : Int64} {a0 b b2 : Option AV} {t : List (Option AV)} (hd : Dc M pc (.lstore 1) 2 pc2) (k : AWq l E d M Z0 pc2 (a0 :: some (vl x) :: none :: t) st I L R Z Q) (hj : 1 + 1 < M.2.2.1 := by decide) (hp : isLg a0 = false := by rfl) : AWq l E d M Z0 pc (a0 :: b :: b2 :: t) (vl x :: st) I L R Z Q :=
  aw_lstore (j := 1) hd hj (hpS (k := 0) rfl hp) k
theorem aw_ist2 {x : Int32} {a0 a1 b : Option AV} {t : List (Option AV)} (hd : Dc M pc (.istore_n 2) 1 pc2) (k : AWq l E d M Z0 pc2 (a0 :: a1 :: some (vi x) :: t) st I L R Z Q) (hj : 2 < M.2.2.1 := by decide) (hp : isLg a1 = false := by rfl) : AWq l E d M Z0 pc (a0 :: a1 :: b :: t) (vi x :: st) I L R Z Q :=
  aw_istore_n (j := 2) hd hj (hpS (k := 1) rfl hp) k
theorem aw_ist2w {x : Int32} {a0 a1 b : Option AV} {t : List (Option AV)} (hd : Dc M pc (.istore 2) 2 pc2) (k : AWq l E d M Z0 pc2 (a0 :: a1 :: some (vi x) :: t) st I L R Z Q) (hj : 2 < M.2.2.1 := by decide) (hp : isLg a1 = false := by rfl) : AWq l E d M Z0 pc (a0 :: a1 :: b :: t) (vi x :: st) I L R Z Q :=
  aw_istore (j := 2) hd hj (hpS (k := 1) rfl hp) k
theorem aw_ast2 {r i : Nat} {a0 a1 b : Option AV} {t : List (Option AV)} (hd : Dc M pc (.astore_n 2) 1 pc2) (k : AWq l E d M Z0 pc2 (a0 :: a1 :: some (vr r i) :: t) st I L R Z Q) (hj : 2 < M.2.2.1 := by decide) (hp : isLg a1 = false := by rfl) : AWq l E d M Z0 pc (a0 :: a1 :: b :: t) (vr r i :: st) I L R Z Q :=
  aw_astore_n (j := 2) hd hj (hpS (k := 1) rfl hp) k
theorem aw_ast2w {r i : Nat} {a0 a1 b : Option AV} {t : List (Option AV)} (hd : Dc M pc (.astore 2) 2 pc2) (k : AWq l E d M Z0 pc2 (a0 :: a1 :: some (vr r i) :: t) st I L R Z Q) (hj : 2 < M.2.2.1 := by decide) (hp : isLg a1 = false := by rfl) : AWq l E d M Z0 pc (a0 :: a1 :: b :: t) (vr r i :: st) I L R Z Q :=
  aw_astore (j := 2) hd hj (hpS (k := 1) rfl hp) k
theorem aw_inc2 {x v : Int32} {n : Int} {a0 a1 : Option AV} {t : List (Option AV)} (hd : Dc M pc (.iinc 2 n) 3 pc2) (hv : x + Int32.ofInt n = v) (k : AWq l E d M Z0 pc2 (a0 :: a1 :: some (vi v) :: t) st I L R Z Q) (hj : 2 < M.2.2.1 := by decide) (hp : isLg a1 = false := by rfl) : AWq l E d M Z0 pc (a0 :: a1 :: some (vi x) :: t) st I L R Z Q :=
  aw_iinc hd rfl hj (hpS (k := 1) rfl hp) hv k
theorem aw_lst2 {x : Int64} {a0 a1 b b2 : Option AV} {t : List (Option AV)} (hd : Dc M pc (.lstore_n 2) 1 pc2) (k : AWq l E d M Z0 pc2 (a0 :: a1 :: some (vl x) :: none :: t) st I L R Z Q) (hj : 2 + 1 < M.2.2.1 := by decide) (hp : isLg a1 = false := by rfl) : AWq l E d M Z0 pc (a0 :: a1 :: b :: b2 :: t) (vl x :: st) I L R Z Q :=
  aw_lstore_n (j := 2) hd hj (hpS (k := 1) rfl hp) k
theorem aw_lst2w {x : Int64} {a0 a1 b b2 : Option AV} {t : List (Option AV)} (hd : Dc M pc (.lstore 2) 2 pc2) (k : AWq l E d M Z0 pc2 (a0 :: a1 :: some (vl x) :: none :: t) st I L R Z Q) (hj : 2 + 1 < M.2.2.1 := by decide) (hp : isLg a1 = false := by rfl) : AWq l E d M Z0 pc (a0 :: a1 :: b :: b2 :: t) (vl x :: st) I L R Z Q :=
  aw_lstore (j := 2) hd hj (hpS (k := 1) rfl hp) k
theorem aw_ist3 {x : Int32} {a0 a1 a2 b : Option AV} {t : List (Option AV)} (hd : Dc M pc (.istore_n 3) 1 pc2) (k : AWq l E d M Z0 pc2 (a0 :: a1 :: a2 :: some (vi x) :: t) st I L R Z Q) (hj : 3 < M.2.2.1 := by decide) (hp : isLg a2 = false := by rfl) : AWq l E d M Z0 pc (a0 :: a1 :: a2 :: b :: t) (vi x :: st) I L R Z Q :=
  aw_istore_n (j := 3) hd hj (hpS (k := 2) rfl hp) k
theorem aw_ist3w {x : Int32} {a0 a1 a2 b : Option AV} {t : List (Option AV)} (hd : Dc M pc (.istore 3) 2 pc2) (k : AWq l E d M Z0 pc2 (a0 :: a1 :: a2 :: some (vi x) :: t) st I L R Z Q) (hj : 3 < M.2.2.1 := by decide) (hp : isLg a2 = false := by rfl) : AWq l E d M Z0 pc (a0 :: a1 :: a2 :: b :: t) (vi x :: st) I L R Z Q :=
  aw_istore (j := 3) hd hj (hpS (k := 2) rfl hp) k
theorem aw_ast3 {r i : Nat} {a0 a1 a2 b : Option AV} {t : List (Option AV)} (hd : Dc M pc (.astore_n 3) 1 pc2) (k : AWq l E d M Z0 pc2 (a0 :: a1 :: a2 :: some (vr r i) :: t) st I L R Z Q) (hj : 3 < M.2.2.1 := by decide) (hp : isLg a2 = false := by rfl) : AWq l E d M Z0 pc (a0 :: a1 :: a2 :: b :: t) (vr r i :: st) I L R Z Q :=
  aw_astore_n (j := 3) hd hj (hpS (k := 2) rfl hp) k
theorem aw_ast3w {r i : Nat} {a0 a1 a2 b : Option AV} {t : List (Option AV)} (hd : Dc M pc (.astore 3) 2 pc2) (k : AWq l E d M Z0 pc2 (a0 :: a1 :: a2 :: some (vr r i) :: t) st I L R Z Q) (hj : 3 < M.2.2.1 := by decide) (hp : isLg a2 = false := by rfl) : AWq l E d M Z0 pc (a0 :: a1 :: a2 :: b :: t) (vr r i :: st) I L R Z Q :=
  aw_astore (j := 3) hd hj (hpS (k := 2) rfl hp) k
theorem aw_inc3 {x v : Int32} {n : Int} {a0 a1 a2 : Option AV} {t : List (Option AV)} (hd : Dc M pc (.iinc 3 n) 3 pc2) (hv : x + Int32.ofInt n = v) (k : AWq l E d M Z0 pc2 (a0 :: a1 :: a2 :: some (vi v) :: t) st I L R Z Q) (hj : 3 < M.2.2.1 := by decide) (hp : isLg a2 = false := by rfl) : AWq l E d M Z0 pc (a0 :: a1 :: a2 :: some (vi x) :: t) st I L R Z Q :=
  aw_iinc hd rfl hj (hpS (k := 2) rfl hp) hv k
theorem aw_lst3 {x : Int64} {a0 a1 a2 b b2 : Option AV} {t : List (Option AV)} (hd : Dc M pc (.lstore_n 3) 1 pc2) (k : AWq l E d M Z0 pc2 (a0 :: a1 :: a2 :: some (vl x) :: none :: t) st I L R Z Q) (hj : 3 + 1 < M.2.2.1 := by decide) (hp : isLg a2 = false := by rfl) : AWq l E d M Z0 pc (a0 :: a1 :: a2 :: b :: b2 :: t) (vl x :: st) I L R Z Q :=
  aw_lstore_n (j := 3) hd hj (hpS (k := 2) rfl hp) k
theorem aw_lst3w {x : Int64} {a0 a1 a2 b b2 : Option AV} {t : List (Option AV)} (hd : Dc M pc (.lstore 3) 2 pc2) (k : AWq l E d M Z0 pc2 (a0 :: a1 :: a2 :: some (vl x) :: none :: t) st I L R Z Q) (hj : 3 + 1 < M.2.2.1 := by decide) (hp : isLg a2 = false := by rfl) : AWq l E d M Z0 pc (a0 :: a1 :: a2 :: b :: b2 :: t) (vl x :: st) I L R Z Q :=
  aw_lstore (j := 3) hd hj (hpS (k := 2) rfl hp) k
theorem aw_ist4 {x : Int32} {a0 a1 a2 a3 b : Option AV} {t : List (Option AV)} (hd : Dc M pc (.istore 4) 2 pc2) (k : AWq l E d M Z0 pc2 (a0 :: a1 :: a2 :: a3 :: some (vi x) :: t) st I L R Z Q) (hj : 4 < M.2.2.1 := by decide) (hp : isLg a3 = false := by rfl) : AWq l E d M Z0 pc (a0 :: a1 :: a2 :: a3 :: b :: t) (vi x :: st) I L R Z Q :=
  aw_istore (j := 4) hd hj (hpS (k := 3) rfl hp) k
theorem aw_ast4 {r i : Nat} {a0 a1 a2 a3 b : Option AV} {t : List (Option AV)} (hd : Dc M pc (.astore 4) 2 pc2) (k : AWq l E d M Z0 pc2 (a0 :: a1 :: a2 :: a3 :: some (vr r i) :: t) st I L R Z Q) (hj : 4 < M.2.2.1 := by decide) (hp : isLg a3 = false := by rfl) : AWq l E d M Z0 pc (a0 :: a1 :: a2 :: a3 :: b :: t) (vr r i :: st) I L R Z Q :=
  aw_astore (j := 4) hd hj (hpS (k := 3) rfl hp) k
theorem aw_inc4 {x v : Int32} {n : Int} {a0 a1 a2 a3 : Option AV} {t : List (Option AV)} (hd : Dc M pc (.iinc 4 n) 3 pc2) (hv : x + Int32.ofInt n = v) (k : AWq l E d M Z0 pc2 (a0 :: a1 :: a2 :: a3 :: some (vi v) :: t) st I L R Z Q) (hj : 4 < M.2.2.1 := by decide) (hp : isLg a3 = false := by rfl) : AWq l E d M Z0 pc (a0 :: a1 :: a2 :: a3 :: some (vi x) :: t) st I L R Z Q :=
  aw_iinc hd rfl hj (hpS (k := 3) rfl hp) hv k
theorem aw_lst4 {x : Int64} {a0 a1 a2 a3 b b2 : Option AV} {t : List (Option AV)} (hd : Dc M pc (.lstore 4) 2 pc2) (k : AWq l E d M Z0 pc2 (a0 :: a1 :: a2 :: a3 :: some (vl x) :: none :: t) st I L R Z Q) (hj : 4 + 1 < M.2.2.1 := by decide) (hp : isLg a3 = false := by rfl) : AWq l E d M Z0 pc (a0 :: a1 :: a2 :: a3 :: b :: b2 :: t) (vl x :: st) I L R Z Q :=
  aw_lstore (j := 4) hd hj (hpS (k := 3) rfl hp) k
theorem aw_ist5 {x : Int32} {a0 a1 a2 a3 a4 b : Option AV} {t : List (Option AV)} (hd : Dc M pc (.istore 5) 2 pc2) (k : AWq l E d M Z0 pc2 (a0 :: a1 :: a2 :: a3 :: a4 :: some (vi x) :: t) st I L R Z Q) (hj : 5 < M.2.2.1 := by decide) (hp : isLg a4 = false := by rfl) : AWq l E d M Z0 pc (a0 :: a1 :: a2 :: a3 :: a4 :: b :: t) (vi x :: st) I L R Z Q :=
  aw_istore (j := 5) hd hj (hpS (k := 4) rfl hp) k
theorem aw_ast5 {r i : Nat} {a0 a1 a2 a3 a4 b : Option AV} {t : List (Option AV)} (hd : Dc M pc (.astore 5) 2 pc2) (k : AWq l E d M Z0 pc2 (a0 :: a1 :: a2 :: a3 :: a4 :: some (vr r i) :: t) st I L R Z Q) (hj : 5 < M.2.2.1 := by decide) (hp : isLg a4 = false := by rfl) : AWq l E d M Z0 pc (a0 :: a1 :: a2 :: a3 :: a4 :: b :: t) (vr r i :: st) I L R Z Q :=
  aw_astore (j := 5) hd hj (hpS (k := 4) rfl hp) k
theorem aw_inc5 {x v : Int32} {n : Int} {a0 a1 a2 a3 a4 : Option AV} {t : List (Option AV)} (hd : Dc M pc (.iinc 5 n) 3 pc2) (hv : x + Int32.ofInt n = v) (k : AWq l E d M Z0 pc2 (a0 :: a1 :: a2 :: a3 :: a4 :: some (vi v) :: t) st I L R Z Q) (hj : 5 < M.2.2.1 := by decide) (hp : isLg a4 = false := by rfl) : AWq l E d M Z0 pc (a0 :: a1 :: a2 :: a3 :: a4 :: some (vi x) :: t) st I L R Z Q :=
  aw_iinc hd rfl hj (hpS (k := 4) rfl hp) hv k
theorem aw_lst5 {x : Int64} {a0 a1 a2 a3 a4 b b2 : Option AV} {t : List (Option AV)} (hd : Dc M pc (.lstore 5) 2 pc2) (k : AWq l E d M Z0 pc2 (a0 :: a1 :: a2 :: a3 :: a4 :: some (vl x) :: none :: t) st I L R Z Q) (hj : 5 + 1 < M.2.2.1 := by decide) (hp : isLg a4 = false := by rfl) : AWq l E d M Z0 pc (a0 :: a1 :: a2 :: a3 :: a4 :: b :: b2 :: t) (vl x :: st) I L R Z Q :=
  aw_lstore (j := 5) hd hj (hpS (k := 4) rfl hp) k
theorem aw_ist6 {x : Int32} {a0 a1 a2 a3 a4 a5 b : Option AV} {t : List (Option AV)} (hd : Dc M pc (.istore 6) 2 pc2) (k : AWq l E d M Z0 pc2 (a0 :: a1 :: a2 :: a3 :: a4 :: a5 :: some (vi x) :: t) st I L R Z Q) (hj : 6 < M.2.2.1 := by decide) (hp : isLg a5 = false := by rfl) : AWq l E d M Z0 pc (a0 :: a1 :: a2 :: a3 :: a4 :: a5 :: b :: t) (vi x :: st) I L R Z Q :=
  aw_istore (j := 6) hd hj (hpS (k := 5) rfl hp) k
theorem aw_ast6 {r i : Nat} {a0 a1 a2 a3 a4 a5 b : Option AV} {t : List (Option AV)} (hd : Dc M pc (.astore 6) 2 pc2) (k : AWq l E d M Z0 pc2 (a0 :: a1 :: a2 :: a3 :: a4 :: a5 :: some (vr r i) :: t) st I L R Z Q) (hj : 6 < M.2.2.1 := by decide) (hp : isLg a5 = false := by rfl) : AWq l E d M Z0 pc (a0 :: a1 :: a2 :: a3 :: a4 :: a5 :: b :: t) (vr r i :: st) I L R Z Q :=
  aw_astore (j := 6) hd hj (hpS (k := 5) rfl hp) k
theorem aw_inc6 {x v : Int32} {n : Int} {a0 a1 a2 a3 a4 a5 : Option AV} {t : List (Option AV)} (hd : Dc M pc (.iinc 6 n) 3 pc2) (hv : x + Int32.ofInt n = v) (k : AWq l E d M Z0 pc2 (a0 :: a1 :: a2 :: a3 :: a4 :: a5 :: some (vi v) :: t) st I L R Z Q) (hj : 6 < M.2.2.1 := by decide) (hp : isLg a5 = false := by rfl) : AWq l E d M Z0 pc (a0 :: a1 :: a2 :: a3 :: a4 :: a5 :: some (vi x) :: t) st I L R Z Q :=
  aw_iinc hd rfl hj (hpS (k := 5) rfl hp) hv k
theorem aw_lst6 {x : Int64} {a0 a1 a2 a3 a4 a5 b b2 : Option AV} {t : List (Option AV)} (hd : Dc M pc (.lstore 6) 2 pc2) (k : AWq l E d M Z0 pc2 (a0 :: a1 :: a2 :: a3 :: a4 :: a5 :: some (vl x) :: none :: t) st I L R Z Q) (hj : 6 + 1 < M.2.2.1 := by decide) (hp : isLg a5 = false := by rfl) : AWq l E d M Z0 pc (a0 :: a1 :: a2 :: a3 :: a4 :: a5 :: b :: b2 :: t) (vl x :: st) I L R Z Q :=
  aw_lstore (j := 6) hd hj (hpS (k := 5) rfl hp) k
theorem aw_ist7 {x : Int32} {a0 a1 a2 a3 a4 a5 a6 b : Option AV} {t : List (Option AV)} (hd : Dc M pc (.istore 7) 2 pc2) (k : AWq l E d M Z0 pc2 (a0 :: a1 :: a2 :: a3 :: a4 :: a5 :: a6 :: some (vi x) :: t) st I L R Z Q) (hj : 7 < M.2.2.1 := by decide) (hp : isLg a6 = false := by rfl) : AWq l E d M Z0 pc (a0 :: a1 :: a2 :: a3 :: a4 :: a5 :: a6 :: b :: t) (vi x :: st) I L R Z Q :=
  aw_istore (j := 7) hd hj (hpS (k := 6) rfl hp) k
theorem aw_ast7 {r i : Nat} {a0 a1 a2 a3 a4 a5 a6 b : Option AV} {t : List (Option AV)} (hd : Dc M pc (.astore 7) 2 pc2) (k : AWq l E d M Z0 pc2 (a0 :: a1 :: a2 :: a3 :: a4 :: a5 :: a6 :: some (vr r i) :: t) st I L R Z Q) (hj : 7 < M.2.2.1 := by decide) (hp : isLg a6 = false := by rfl) : AWq l E d M Z0 pc (a0 :: a1 :: a2 :: a3 :: a4 :: a5 :: a6 :: b :: t) (vr r i :: st) I L R Z Q :=
  aw_astore (j := 7) hd hj (hpS (k := 6) rfl hp) k
theorem aw_inc7 {x v : Int32} {n : Int} {a0 a1 a2 a3 a4 a5 a6 : Option AV} {t : List (Option AV)} (hd : Dc M pc (.iinc 7 n) 3 pc2) (hv : x + Int32.ofInt n = v) (k : AWq l E d M Z0 pc2 (a0 :: a1 :: a2 :: a3 :: a4 :: a5 :: a6 :: some (vi v) :: t) st I L R Z Q) (hj : 7 < M.2.2.1 := by decide) (hp : isLg a6 = false := by rfl) : AWq l E d M Z0 pc (a0 :: a1 :: a2 :: a3 :: a4 :: a5 :: a6 :: some (vi x) :: t) st I L R Z Q :=
  aw_iinc hd rfl hj (hpS (k := 6) rfl hp) hv k
theorem aw_lst7 {x : Int64} {a0 a1 a2 a3 a4 a5 a6 b b2 : Option AV} {t : List (Option AV)} (hd : Dc M pc (.lstore 7) 2 pc2) (k : AWq l E d M Z0 pc2 (a0 :: a1 :: a2 :: a3 :: a4 :: a5 :: a6 :: some (vl x) :: none :: t) st I L R Z Q) (hj : 7 + 1 < M.2.2.1 := by decide) (hp : isLg a6 = false := by rfl) : AWq l E d M Z0 pc (a0 :: a1 :: a2 :: a3 :: a4 :: a5 :: a6 :: b :: b2 :: t) (vl x :: st) I L R Z Q :=
  aw_lstore (j := 7) hd hj (hpS (k := 6) rfl hp) k
theorem aw_ist8 {x : Int32} {a0 a1 a2 a3 a4 a5 a6 a7 b : Option AV} {t : List (Option AV)} (hd : Dc M pc (.istore 8) 2 pc2) (k : AWq l E d M Z0 pc2 (a0 :: a1 :: a2 :: a3 :: a4 :: a5 :: a6 :: a7 :: some (vi x) :: t) st I L R Z Q) (hj : 8 < M.2.2.1 := by decide) (hp : isLg a7 = false := by rfl) : AWq l E d M Z0 pc (a0 :: a1 :: a2 :: a3 :: a4 :: a5 :: a6 :: a7 :: b :: t) (vi x :: st) I L R Z Q :=
  aw_istore (j := 8) hd hj (hpS (k := 7) rfl hp) k
theorem aw_ast8 {r i : Nat} {a0 a1 a2 a3 a4 a5 a6 a7 b : Option AV} {t : List (Option AV)} (hd : Dc M pc (.astore 8) 2 pc2) (k : AWq l E d M Z0 pc2 (a0 :: a1 :: a2 :: a3 :: a4 :: a5 :: a6 :: a7 :: some (vr r i) :: t) st I L R Z Q) (hj : 8 < M.2.2.1 := by decide) (hp : isLg a7 = false := by rfl) : AWq l E d M Z0 pc (a0 :: a1 :: a2 :: a3 :: a4 :: a5 :: a6 :: a7 :: b :: t) (vr r i :: st) I L R Z Q :=
  aw_astore (j := 8) hd hj (hpS (k := 7) rfl hp) k
theorem aw_inc8 {x v : Int32} {n : Int} {a0 a1 a2 a3 a4 a5 a6 a7 : Option AV} {t : List (Option AV)} (hd : Dc M pc (.iinc 8 n) 3 pc2) (hv : x + Int32.ofInt n = v) (k : AWq l E d M Z0 pc2 (a0 :: a1 :: a2 :: a3 :: a4 :: a5 :: a6 :: a7 :: some (vi v) :: t) st I L R Z Q) (hj : 8 < M.2.2.1 := by decide) (hp : isLg a7 = false := by rfl) : AWq l E d M Z0 pc (a0 :: a1 :: a2 :: a3 :: a4 :: a5 :: a6 :: a7 :: some (vi x) :: t) st I L R Z Q :=
  aw_iinc hd rfl hj (hpS (k := 7) rfl hp) hv k
theorem aw_lst8 {x : Int64} {a0 a1 a2 a3 a4 a5 a6 a7 b b2 : Option AV} {t : List (Option AV)} (hd : Dc M pc (.lstore 8) 2 pc2) (k : AWq l E d M Z0 pc2 (a0 :: a1 :: a2 :: a3 :: a4 :: a5 :: a6 :: a7 :: some (vl x) :: none :: t) st I L R Z Q) (hj : 8 + 1 < M.2.2.1 := by decide) (hp : isLg a7 = false := by rfl) : AWq l E d M Z0 pc (a0 :: a1 :: a2 :: a3 :: a4 :: a5 :: a6 :: a7 :: b :: b2 :: t) (vl x :: st) I L R Z Q :=
  aw_lstore (j := 8) hd hj (hpS (k := 7) rfl hp) k
theorem aw_ist9 {x : Int32} {a0 a1 a2 a3 a4 a5 a6 a7 a8 b : Option AV} {t : List (Option AV)} (hd : Dc M pc (.istore 9) 2 pc2) (k : AWq l E d M Z0 pc2 (a0 :: a1 :: a2 :: a3 :: a4 :: a5 :: a6 :: a7 :: a8 :: some (vi x) :: t) st I L R Z Q) (hj : 9 < M.2.2.1 := by decide) (hp : isLg a8 = false := by rfl) : AWq l E d M Z0 pc (a0 :: a1 :: a2 :: a3 :: a4 :: a5 :: a6 :: a7 :: a8 :: b :: t) (vi x :: st) I L R Z Q :=
  aw_istore (j := 9) hd hj (hpS (k := 8) rfl hp) k
theorem aw_ast9 {r i : Nat} {a0 a1 a2 a3 a4 a5 a6 a7 a8 b : Option AV} {t : List (Option AV)} (hd : Dc M pc (.astore 9) 2 pc2) (k : AWq l E d M Z0 pc2 (a0 :: a1 :: a2 :: a3 :: a4 :: a5 :: a6 :: a7 :: a8 :: some (vr r i) :: t) st I L R Z Q) (hj : 9 < M.2.2.1 := by decide) (hp : isLg a8 = false := by rfl) : AWq l E d M Z0 pc (a0 :: a1 :: a2 :: a3 :: a4 :: a5 :: a6 :: a7 :: a8 :: b :: t) (vr r i :: st) I L R Z Q :=
  aw_astore (j := 9) hd hj (hpS (k := 8) rfl hp) k
theorem aw_inc9 {x v : Int32} {n : Int} {a0 a1 a2 a3 a4 a5 a6 a7 a8 : Option AV} {t : List (Option AV)} (hd : Dc M pc (.iinc 9 n) 3 pc2) (hv : x + Int32.ofInt n = v) (k : AWq l E d M Z0 pc2 (a0 :: a1 :: a2 :: a3 :: a4 :: a5 :: a6 :: a7 :: a8 :: some (vi v) :: t) st I L R Z Q) (hj : 9 < M.2.2.1 := by decide) (hp : isLg a8 = false := by rfl) : AWq l E d M Z0 pc (a0 :: a1 :: a2 :: a3 :: a4 :: a5 :: a6 :: a7 :: a8 :: some (vi x) :: t) st I L R Z Q :=
  aw_iinc hd rfl hj (hpS (k := 8) rfl hp) hv k
theorem aw_lst9 {x : Int64} {a0 a1 a2 a3 a4 a5 a6 a7 a8 b b2 : Option AV} {t : List (Option AV)} (hd : Dc M pc (.lstore 9) 2 pc2) (k : AWq l E d M Z0 pc2 (a0 :: a1 :: a2 :: a3 :: a4 :: a5 :: a6 :: a7 :: a8 :: some (vl x) :: none :: t) st I L R Z Q) (hj : 9 + 1 < M.2.2.1 := by decide) (hp : isLg a8 = false := by rfl) : AWq l E d M Z0 pc (a0 :: a1 :: a2 :: a3 :: a4 :: a5 :: a6 :: a7 :: a8 :: b :: b2 :: t) (vl x :: st) I L R Z Q :=
  aw_lstore (j := 9) hd hj (hpS (k := 8) rfl hp) k
theorem aw_ist10 {x : Int32} {a0 a1 a2 a3 a4 a5 a6 a7 a8 a9 b : Option AV} {t : List (Option AV)} (hd : Dc M pc (.istore 10) 2 pc2) (k : AWq l E d M Z0 pc2 (a0 :: a1 :: a2 :: a3 :: a4 :: a5 :: a6 :: a7 :: a8 :: a9 :: some (vi x) :: t) st I L R Z Q) (hj : 10 < M.2.2.1 := by decide) (hp : isLg a9 = false := by rfl) : AWq l E d M Z0 pc (a0 :: a1 :: a2 :: a3 :: a4 :: a5 :: a6 :: a7 :: a8 :: a9 :: b :: t) (vi x :: st) I L R Z Q :=
  aw_istore (j := 10) hd hj (hpS (k := 9) rfl hp) k
theorem aw_ast10 {r i : Nat} {a0 a1 a2 a3 a4 a5 a6 a7 a8 a9 b : Option AV} {t : List (Option AV)} (hd : Dc M pc (.astore 10) 2 pc2) (k : AWq l E d M Z0 pc2 (a0 :: a1 :: a2 :: a3 :: a4 :: a5 :: a6 :: a7 :: a8 :: a9 :: some (vr r i) :: t) st I L R Z Q) (hj : 10 < M.2.2.1 := by decide) (hp : isLg a9 = false := by rfl) : AWq l E d M Z0 pc (a0 :: a1 :: a2 :: a3 :: a4 :: a5 :: a6 :: a7 :: a8 :: a9 :: b :: t) (vr r i :: st) I L R Z Q :=
  aw_astore (j := 10) hd hj (hpS (k := 9) rfl hp) k
theorem aw_inc10 {x v : Int32} {n : Int} {a0 a1 a2 a3 a4 a5 a6 a7 a8 a9 : Option AV} {t : List (Option AV)} (hd : Dc M pc (.iinc 10 n) 3 pc2) (hv : x + Int32.ofInt n = v) (k : AWq l E d M Z0 pc2 (a0 :: a1 :: a2 :: a3 :: a4 :: a5 :: a6 :: a7 :: a8 :: a9 :: some (vi v) :: t) st I L R Z Q) (hj : 10 < M.2.2.1 := by decide) (hp : isLg a9 = false := by rfl) : AWq l E d M Z0 pc (a0 :: a1 :: a2 :: a3 :: a4 :: a5 :: a6 :: a7 :: a8 :: a9 :: some (vi x) :: t) st I L R Z Q :=
  aw_iinc hd rfl hj (hpS (k := 9) rfl hp) hv k
theorem aw_lst10 {x : Int64} {a0 a1 a2 a3 a4 a5 a6 a7 a8 a9 b b2 : Option AV} {t : List (Option AV)} (hd : Dc M pc (.lstore 10) 2 pc2) (k : AWq l E d M Z0 pc2 (a0 :: a1 :: a2 :: a3 :: a4 :: a5 :: a6 :: a7 :: a8 :: a9 :: some (vl x) :: none :: t) st I L R Z Q) (hj : 10 + 1 < M.2.2.1 := by decide) (hp : isLg a9 = false := by rfl) : AWq l E d M Z0 pc (a0 :: a1 :: a2 :: a3 :: a4 :: a5 :: a6 :: a7 :: a8 :: a9 :: b :: b2 :: t) (vl x :: st) I L R Z Q :=
  aw_lstore (j := 10) hd hj (hpS (k := 9) rfl hp) k
theorem aw_ist11 {x : Int32} {a0 a1 a2 a3 a4 a5 a6 a7 a8 a9 a10 b : Option AV} {t : List (Option AV)} (hd : Dc M pc (.istore 11) 2 pc2) (k : AWq l E d M Z0 pc2 (a0 :: a1 :: a2 :: a3 :: a4 :: a5 :: a6 :: a7 :: a8 :: a9 :: a10 :: some (vi x) :: t) st I L R Z Q) (hj : 11 < M.2.2.1 := by decide) (hp : isLg a10 = false := by rfl) : AWq l E d M Z0 pc (a0 :: a1 :: a2 :: a3 :: a4 :: a5 :: a6 :: a7 :: a8 :: a9 :: a10 :: b :: t) (vi x :: st) I L R Z Q :=
  aw_istore (j := 11) hd hj (hpS (k := 10) rfl hp) k
theorem aw_ast11 {r i : Nat} {a0 a1 a2 a3 a4 a5 a6 a7 a8 a9 a10 b : Option AV} {t : List (Option AV)} (hd : Dc M pc (.astore 11) 2 pc2) (k : AWq l E d M Z0 pc2 (a0 :: a1 :: a2 :: a3 :: a4 :: a5 :: a6 :: a7 :: a8 :: a9 :: a10 :: some (vr r i) :: t) st I L R Z Q) (hj : 11 < M.2.2.1 := by decide) (hp : isLg a10 = false := by rfl) : AWq l E d M Z0 pc (a0 :: a1 :: a2 :: a3 :: a4 :: a5 :: a6 :: a7 :: a8 :: a9 :: a10 :: b :: t) (vr r i :: st) I L R Z Q :=
  aw_astore (j := 11) hd hj (hpS (k := 10) rfl hp) k
theorem aw_inc11 {x v : Int32} {n : Int} {a0 a1 a2 a3 a4 a5 a6 a7 a8 a9 a10 : Option AV} {t : List (Option AV)} (hd : Dc M pc (.iinc 11 n) 3 pc2) (hv : x + Int32.ofInt n = v) (k : AWq l E d M Z0 pc2 (a0 :: a1 :: a2 :: a3 :: a4 :: a5 :: a6 :: a7 :: a8 :: a9 :: a10 :: some (vi v) :: t) st I L R Z Q) (hj : 11 < M.2.2.1 := by decide) (hp : isLg a10 = false := by rfl) : AWq l E d M Z0 pc (a0 :: a1 :: a2 :: a3 :: a4 :: a5 :: a6 :: a7 :: a8 :: a9 :: a10 :: some (vi x) :: t) st I L R Z Q :=
  aw_iinc hd rfl hj (hpS (k := 10) rfl hp) hv k
theorem aw_lst11 {x : Int64} {a0 a1 a2 a3 a4 a5 a6 a7 a8 a9 a10 b b2 : Option AV} {t : List (Option AV)} (hd : Dc M pc (.lstore 11) 2 pc2) (k : AWq l E d M Z0 pc2 (a0 :: a1 :: a2 :: a3 :: a4 :: a5 :: a6 :: a7 :: a8 :: a9 :: a10 :: some (vl x) :: none :: t) st I L R Z Q) (hj : 11 + 1 < M.2.2.1 := by decide) (hp : isLg a10 = false := by rfl) : AWq l E d M Z0 pc (a0 :: a1 :: a2 :: a3 :: a4 :: a5 :: a6 :: a7 :: a8 :: a9 :: a10 :: b :: b2 :: t) (vl x :: st) I L R Z Q :=
  aw_lstore (j := 11) hd hj (hpS (k := 10) rfl hp) k
theorem aw_ist12 {x : Int32} {a0 a1 a2 a3 a4 a5 a6 a7 a8 a9 a10 a11 b : Option AV} {t : List (Option AV)} (hd : Dc M pc (.istore 12) 2 pc2) (k : AWq l E d M Z0 pc2 (a0 :: a1 :: a2 :: a3 :: a4 :: a5 :: a6 :: a7 :: a8 :: a9 :: a10 :: a11 :: some (vi x) :: t) st I L R Z Q) (hj : 12 < M.2.2.1 := by decide) (hp : isLg a11 = false := by rfl) : AWq l E d M Z0 pc (a0 :: a1 :: a2 :: a3 :: a4 :: a5 :: a6 :: a7 :: a8 :: a9 :: a10 :: a11 :: b :: t) (vi x :: st) I L R Z Q :=
  aw_istore (j := 12) hd hj (hpS (k := 11) rfl hp) k
theorem aw_ast12 {r i : Nat} {a0 a1 a2 a3 a4 a5 a6 a7 a8 a9 a10 a11 b : Option AV} {t : List (Option AV)} (hd : Dc M pc (.astore 12) 2 pc2) (k : AWq l E d M Z0 pc2 (a0 :: a1 :: a2 :: a3 :: a4 :: a5 :: a6 :: a7 :: a8 :: a9 :: a10 :: a11 :: some (vr r i) :: t) st I L R Z Q) (hj : 12 < M.2.2.1 := by decide) (hp : isLg a11 = false := by rfl) : AWq l E d M Z0 pc (a0 :: a1 :: a2 :: a3 :: a4 :: a5 :: a6 :: a7 :: a8 :: a9 :: a10 :: a11 :: b :: t) (vr r i :: st) I L R Z Q :=
  aw_astore (j := 12) hd hj (hpS (k := 11) rfl hp) k
theorem aw_inc12 {x v : Int32} {n : Int} {a0 a1 a2 a3 a4 a5 a6 a7 a8 a9 a10 a11 : Option AV} {t : List (Option AV)} (hd : Dc M pc (.iinc 12 n) 3 pc2) (hv : x + Int32.ofInt n = v) (k : AWq l E d M Z0 pc2 (a0 :: a1 :: a2 :: a3 :: a4 :: a5 :: a6 :: a7 :: a8 :: a9 :: a10 :: a11 :: some (vi v) :: t) st I L R Z Q) (hj : 12 < M.2.2.1 := by decide) (hp : isLg a11 = false := by rfl) : AWq l E d M Z0 pc (a0 :: a1 :: a2 :: a3 :: a4 :: a5 :: a6 :: a7 :: a8 :: a9 :: a10 :: a11 :: some (vi x) :: t) st I L R Z Q :=
  aw_iinc hd rfl hj (hpS (k := 11) rfl hp) hv k
theorem aw_lst12 {x : Int64} {a0 a1 a2 a3 a4 a5 a6 a7 a8 a9 a10 a11 b b2 : Option AV} {t : List (Option AV)} (hd : Dc M pc (.lstore 12) 2 pc2) (k : AWq l E d M Z0 pc2 (a0 :: a1 :: a2 :: a3 :: a4 :: a5 :: a6 :: a7 :: a8 :: a9 :: a10 :: a11 :: some (vl x) :: none :: t) st I L R Z Q) (hj : 12 + 1 < M.2.2.1 := by decide) (hp : isLg a11 = false := by rfl) : AWq l E d M Z0 pc (a0 :: a1 :: a2 :: a3 :: a4 :: a5 :: a6 :: a7 :: a8 :: a9 :: a10 :: a11 :: b :: b2 :: t) (vl x :: st) I L R Z Q :=
  aw_lstore (j := 12) hd hj (hpS (k := 11) rfl hp) k
end RULES
end
section
/-! ===== classes by tag ===== -/
def Rn (t : Nat) : String := match t with
  | 0 => RX0 | 1 => RX1 | 2 => RX2 | 3 => RX3 | 4 => RX4 | 5 => RX5 | 6 => RX6 | 7 => RX7 | 8 => RX8 | _ => RX9
def Tt (t : Nat) : u_T := match t with
  | 0 => TX0 | 1 => TX1 | 2 => TX2 | 3 => TX3 | 4 => TX4 | 5 => TX5 | 6 => TX6 | 7 => TX7 | 8 => TX8 | _ => TX9
def Ty (t : Nat) : Nat → FieldType := match t with
  | 0 => tyX0 | 1 => tyX1 | 2 => tyX2 | 3 => tyX3 | 4 => tyX4 | 5 => tyX5 | 6 => tyX6 | 7 => tyX7 | 8 => tyX8 | _ => tyX9
theorem by10 {P : Nat → Prop} (h0 : P 0) (h1 : P 1) (h2 : P 2) (h3 : P 3) (h4 : P 4) (h5 : P 5) (h6 : P 6) (h7 : P 7) (h8 : P 8) (h9 : P 9) : ∀ t, t < 10 → P t := fun t ht =>
  match t, ht with
  | 0, _ => h0 | 1, _ => h1 | 2, _ => h2 | 3, _ => h3 | 4, _ => h4 | 5, _ => h5 | 6, _ => h6 | 7, _ => h7 | 8, _ => h8 | 9, _ => h9
  | n + 10, h => absurd h (by omega)
theorem cl_at : ∀ t, t < 10 → classes[t]? = some (Rn t, Tt t, nf t) := by10 rfl rfl rfl rfl rfl rfl rfl rfl rfl rfl
theorem mem_G {ws : List Cond} (h : ws.all (fun w => decide (w ∈ lw_tbl) && goodWord w) = true) : ∀ w ∈ ws, w ∈ G := fun w hw => by
  have h1 := List.all_eq_true.mp h w hw
  simp only [Bool.and_eq_true, decide_eq_true_eq] at h1
  exact List.mem_filter.mpr h1
set_option maxRecDepth 100000 in
theorem cl_in : ∀ t, t < 10 → ∀ w ∈ u_ws (Rn t) (Tt t) (nf t), w ∈ G := by10 (mem_G (by decide +kernel)) (mem_G (by decide +kernel)) (mem_G (by decide +kernel)) (mem_G (by decide +kernel)) (mem_G (by decide +kernel)) (mem_G (by decide +kernel)) (mem_G (by decide +kernel)) (mem_G (by decide +kernel)) (mem_G (by decide +kernel)) (mem_G (by decide +kernel))
theorem cl_nm : ∀ t, t < 10 → ∀ a, a < nf t → ∀ b, b < nf t → a ≠ b → (Tt t a).2.1 ≠ (Tt t b).2.1 := by10 nmX0 nmX1 nmX2 nmX3 nmX4 nmX5 nmX6 nmX7 nmX8 nmX9
theorem cl_ty : ∀ t, t < 10 → ∀ k, k < nf t → parseFieldDescriptor (Tt t k).2.2.1 = some (Ty t k) := by10 tyX0_ok tyX1_ok tyX2_ok tyX3_ok tyX4_ok tyX5_ok tyX6_ok tyX7_ok tyX8_ok tyX9_ok
theorem cl_df : ∀ t, t < 10 → ∀ k, k < nf t → defaultValue (Ty t k) = if fr t k then Value.null else .int 0 := by
  refine by10 ?_ ?_ ?_ ?_ ?_ ?_ ?_ ?_ ?_ ?_ <;> decide +kernel
/-- a field by its link -/
def FL (own : String) (idx t f : Nat) : Prop := (t < 10 ∧ f < nf t) ∧ Cond.fieldLink own idx (Tt t f).1 (Tt t f).2.1 (Tt t f).2.2.1 ∈ G
theorem vd_of {Z : Zt} {t i : Nat} (h : vv Z (vr t i)) (ht : t < 50) : VD Z t i := h.elim (fun q => absurd q (Nat.not_le.mpr ht)) id
theorem cell_o (E : En) (I : It) (L : Lt) (R : Rt) (Z : Zt) {t i : Nat} (h : t < 10) : cellE E I L R Z t i = .inr (t, (List.range (nf t)).map (fV E I R t i)) := if_pos h
theorem cell_i (E : En) (I : It) (L : Lt) (R : Rt) (Z : Zt) {t i : Nat} (h : 10 ≤ t) (h1 : tc t < 3) (h2 : tc t ≠ 1) : cellE E I L R Z t i = .inl (E.2.1 (tc t), alen Z t i, .inl (I t i)) := by
  unfold cellE
  rw [if_neg (Nat.not_lt.mpr h), if_neg h2, if_pos h1]
theorem cell_l (E : En) (I : It) (L : Lt) (R : Rt) (Z : Zt) {t i : Nat} (h : 10 ≤ t) (h2 : tc t = 1) : cellE E I L R Z t i = .inl (E.2.1 1, alen Z t i, .inr (.inl (L t i))) := by
  unfold cellE
  rw [if_neg (Nat.not_lt.mpr h), if_pos h2]
theorem cell_r (E : En) (I : It) (L : Lt) (R : Rt) (Z : Zt) {t i : Nat} (h : 10 ≤ t) (h1 : 3 ≤ tc t) : cellE E I L R Z t i = .inl (E.2.1 (tc t), alen Z t i, .inr (.inr (.inr (.inr (fun j => cR E (R t i j)))))) := by
  unfold cellE
  rw [if_neg (Nat.not_lt.mpr h), if_neg (by omega), if_neg (by omega)]
theorem va_one {D : va_G} {cl : List vw_C} {q : Nat × va_E} {H : Heap} (h : va_at D cl q H) : va_P D cl [q] H := fun k q2 hk => by
  have h0 : k < 1 := (List.getElem?_eq_some_iff.mp hk).1
  rw [show k = 0 by omega] at hk
  cases hk
  exact h
theorem fV_V (E : En) (I : It) (R : Rt) (t i : Nat) {k n : Nat} (h : k < n) : vp_V ((List.range n).map (fV E I R t i)) k = fV E I R t i k := by
  unfold vp_V
  rw [List.getD_eq_getElem?_getD, List.getElem?_map, List.getElem?_range h]
  rfl
section HEAP
variable {l : Launch} {E : En} {d : Nat} {M : Mt} {Z0 : Zt} {pc pc2 tgt : Nat} {ls : List (Option AV)} {st : List AV} {I : It} {L : Lt} {R : Rt} {Z : Zt} {Q : Qt}
theorem aw_getf {idx t i f : Nat} {v : AV} (hd : Dc M pc (.getfield idx) 3 pc2) (hl : FL M.1.cls idx t f) (hv : cv E v = fV E I R t i f) (hvv : ∀ H, Wo E I L R Z H → VD Z t i → vv Z v) (k : AWq l E d M Z0 pc2 ls (v :: st) I L R Z Q) : AWq l E d M Z0 pc ls (vr t i :: st) I L R Z Q := by
  obtain ⟨hd, rfl⟩ := hd
  obtain ⟨⟨ht, hf⟩, hlk⟩ := hl
  obtain ⟨r, I2, L2, R2, Z2, hq, hz, k⟩ := k
  refine ⟨r, I2, L2, R2, Z2, hq, hz, fun p e Rm s m args below meth c F h1 h2 h3 h4 als H locs hl v1 v2 hW hS => ?_⟩
  have hvd : VD Z t i := vd_of (vh1 v1) (by omega)
  have hat := hW.at hvd
  rw [cell_o E I L R Z ht] at hat
  refine va_get F.1 F.2.1 F.2.2.2.2.1 (cl_in t ht) F.2.2.2.1 F.2.2.2.2.2.1.1 (va_one hat) 0 rfl (cl_at t ht) f hf (F.2.2.2.2.1 _ hlk) (fun _ h => h) (v := cv E v) ?_ hd (k p e Rm s m args below meth c F h1 h2 h3 h4 als H locs hl (vc1 (hvv H hW hvd) (vt1 v1)) v2 hW hS)
  rw [List.getElem?_map, List.getElem?_range hf, hv]
  rfl
theorem aw_getI {idx t i f : Nat} (hd : Dc M pc (.getfield idx) 3 pc2) (hl : FL M.1.cls idx t f) (k : AWq l E d M Z0 pc2 ls (vi (I t i f) :: st) I L R Z Q) (hf : fr t f = false := by rfl) : AWq l E d M Z0 pc ls (vr t i :: st) I L R Z Q :=
  aw_getf (v := vi (I t i f)) hd hl (by unfold fV; rw [hf]; rfl) (fun _ _ _ => trivial) k
theorem aw_getR {idx t i f t2 i2 : Nat} (hd : Dc M pc (.getfield idx) 3 pc2) (hl : FL M.1.cls idx t f) (hr : R t i f = some (t2, i2)) (k : AWq l E d M Z0 pc2 ls (vr t2 i2 :: st) I L R Z Q) (hf : fr t f = true := by rfl) : AWq l E d M Z0 pc ls (vr t i :: st) I L R Z Q :=
  aw_getf (v := vr t2 i2) hd hl (by unfold fV; rw [hf, hr]; rfl) (fun _ hW hvd => hW.2.2 t i f (t2, i2) hr hvd) k
/-- a field is written -/
theorem aw_putf {idx t i f : Nat} {v : AV} {I1 : It} {R1 : Rt} (hd : Dc M pc (.putfield idx) 3 pc2) (hl : FL M.1.cls idx t f) (hfin : (Tt t f).2.2.2 = false ∨ ((Tt t f).2.2.2 = true ∧ M.1.name = "<init>" ∧ (Tt t f).1 = M.1.cls)) (hn : narrow (Ty t f) (cv E v) = cv E v) (hfit : fits (Ty t f) (cv E v) = true)
    (hV : ∀ j, j < nf t → updV (fV E I R t i) f (cv E v) j = fV E I1 R1 t i j) (ho : ∀ t2 i2, ¬ (t2 = t ∧ i2 = i) → I1 t2 i2 = I t2 i2 ∧ R1 t2 i2 = R t2 i2) (hr : ∀ H, Wo E I L R Z H → VD Z t i → vv Z v → ∀ k q, R1 t i k = some q → vv Z (vr q.1 q.2))
    (k : AWq l E d M Z0 pc2 ls st I1 L R1 Z Q) : AWq l E d M Z0 pc ls (v :: vr t i :: st) I L R Z Q := by
  obtain ⟨hd, rfl⟩ := hd
  obtain ⟨⟨ht, hf⟩, hlk⟩ := hl
  obtain ⟨r, I2, L2, R2, Z2, hq, hz, k⟩ := k
  refine ⟨r, I2, L2, R2, Z2, hq, hz, fun p e Rm s m args below meth c F h1 h2 h3 h4 als H locs hl v1 v2 hW hS => ?_⟩
  have hvd : VD Z t i := vd_of (vh1 (vt1 v1)) (by omega)
  have hat := hW.at hvd
  rw [cell_o E I L R Z ht] at hat
  have hK := F.2.2.2.2.2.1.1
  have hts := F.2.2.2.2.1
  have hap := va_apart (own := M.1.cls) hts (cl_in t ht) (Ty t) (cl_ty t ht) (cl_nm t ht) hK (cl_at t ht)
  obtain ⟨r1, e1, cell, q1, q2, q3, q4⟩ := hat
  have hr1 : r1 = (Rn t, Tt t, nf t) := Option.some.inj (e1.symm.trans (cl_at t ht))
  subst hr1
  obtain ⟨hSl, hfc, kC, hkC, hkind⟩ := hK.1 t _ (cl_at t ht)
  obtain ⟨cf, kf, fi, fd, hi, hsl⟩ := hSl f hf
  have hst := (u_facts hfc hkC (u_lays hts (cl_in t ht) hf) hi).1
  obtain ⟨g1, g2⟩ := u_fits hfc hkC hkind (u_lays hts (cl_in t ht) hf) hi (cl_ty t ht f hf) hn hfit
  have hAa : Af E (ad E t i) := by unfold Af ad; rw [if_pos (by omega)]; omega
  have hfin2 : hasFlag fd.accessFlags Acc.final = false ∨ (m.cls = cf ∧ meth.name = "<init>") := by
    have hlay := hts _ (cl_in t ht _ (u_in_lay hf))
    unfold u_lay at hlay
    rcases hfin with h | ⟨h, h5, h6⟩
    · rw [if_neg (by rw [h]; decide)] at hlay
      obtain ⟨c', k', cf', kf', fi', fd', r1, r2, hi', -, hfn, -⟩ := Cond.lays_spec hlay
      cases hi.symm.trans hi'
      exact Or.inl hfn
    · right
      refine ⟨?_, by rw [F.2.2.2.2.2.2.2.2.1]; exact h5⟩
      rw [if_pos h] at hlay
      obtain ⟨_, _, c', _, _, _, -, -, hf', -, -, -, hown2, -⟩ := Cond.laysFinal_spec hlay
      have e1 : c' = cf := by have := hi.symm.trans hf'; simp at this; exact this.1.symm
      rw [h6] at hown2
      rw [← e1]
      exact Option.some.inj (F.2.2.2.1.symm.trans hown2)
  have hal : ad E t i < H.size := (Array.getElem?_eq_some_iff.mp q1).1
  have eq1 : (H.setIfInBounds (ad E t i) (cell.setSlot fd.slot (cv E v)))[ad E t i]? = some (cell.setSlot fd.slot (cv E v)) := by simp [Array.getElem?_setIfInBounds, hal]
  have eq2 : (H.setIfInBounds (ad E t i) (cell.setSlot fd.slot (cv E v))).size = H.size := by simp
  have eq3 : ∀ q, q ≠ ad E t i → (H.setIfInBounds (ad E t i) (cell.setSlot fd.slot (cv E v)))[q]? = H[q]? := fun q hq => by simp [Array.getElem?_setIfInBounds, Ne.symm hq]
  refine W.putf F.1 F.2.1 F.2.2.2.1 (F.2.2.2.2.1 _ hlk) hi hst hfin2 q1 (by rw [q3]; exact fun h => by cases h) (by rw [hsl]; exact k2_hasslot (q4 f hf)) g1 (by rw [q2, q3]; exact g2) rfl rfl hd ?_
  generalize H.setIfInBounds (ad E t i) (cell.setSlot fd.slot (cv E v)) = H1 at eq1 eq2 eq3 ⊢
  refine k p e Rm s m args below meth c F h1 h2 h3 h4 als H1 _ hl (vt1 (vt1 v1)) v2 (hW.put hvd eq2 eq3 ?_ (fun t2 i2 hne => ⟨(ho t2 i2 hne).1, rfl, (ho t2 i2 hne).2⟩) (hr H hW hvd (vh1 v1))) (hS.put eq2 eq3 hAa)
  rw [cell_o E I1 L R1 Z ht]
  rw [hsl] at eq1
  refine ⟨_, cl_at t ht, t_OB.to (V := updV (fV E I R t i) f (cv E v)) ⟨_, eq1, q2, q3, ?_⟩ (fun j hj => (hV j hj).trans (fV_V E I1 R1 t i hj).symm)⟩
  exact t_set (fun k2 hk2 => by rw [q4 k2 hk2, fV_V E I R t i hk2]) hap hf (cv E v)
theorem aw_putI {idx t i f : Nat} {x : Int32} (hd : Dc M pc (.putfield idx) 3 pc2) (hl : FL M.1.cls idx t f) (k : AWq l E d M Z0 pc2 ls st (sI I t i f x) L R Z Q) (hf : fr t f = false := by rfl) (hty : Ty t f = .int := by rfl) (hfin : (Tt t f).2.2.2 = false ∨ ((Tt t f).2.2.2 = true ∧ M.1.name = "<init>" ∧ (Tt t f).1 = M.1.cls) := by first | exact Or.inl rfl | exact Or.inr ⟨rfl, rfl, rfl⟩) : AWq l E d M Z0 pc ls (vi x :: vr t i :: st) I L R Z Q := by
  refine aw_putf (v := vi x) (I1 := sI I t i f x) (R1 := R) hd hl hfin (by rw [hty]; rfl) (by rw [hty]; rfl) (fun j hj => ?_) (fun t2 i2 hne => ⟨sI_n hne, rfl⟩) (fun H hW hvd _ k q hq => hW.2.2 t i k q hq hvd) k
  unfold updV fV
  rw [sI_s]
  by_cases e : j = f
  · subst e
    rw [if_pos rfl, hf]
    simp [upd, cv]
  · rw [if_neg e]
    simp [upd, e]
theorem aw_putZ {idx t i f : Nat} {x : Int32} (hd : Dc M pc (.putfield idx) 3 pc2) (hl : FL M.1.cls idx t f) (hx : x = 0 ∨ x = 1) (k : AWq l E d M Z0 pc2 ls st (sI I t i f x) L R Z Q) (hf : fr t f = false := by rfl) (hty : Ty t f = .boolean := by rfl) (hfin : (Tt t f).2.2.2 = false := by rfl) : AWq l E d M Z0 pc ls (vi x :: vr t i :: st) I L R Z Q := by
  refine aw_putf (v := vi x) (I1 := sI I t i f x) (R1 := R) hd hl (Or.inl hfin) (by rw [hty]; rcases hx with rfl | rfl <;> rfl) (by rw [hty]; rcases hx with rfl | rfl <;> rfl) (fun j hj => ?_) (fun t2 i2 hne => ⟨sI_n hne, rfl⟩) (fun H hW hvd _ k q hq => hW.2.2 t i k q hq hvd) k
  unfold updV fV
  rw [sI_s]
  by_cases e : j = f
  · subst e
    rw [if_pos rfl, hf]
    simp [upd, cv]
  · rw [if_neg e]
    simp [upd, e]
theorem up_s {α : Type} (f : Nat → α) (k : Nat) (v : α) : va_up f k v k = v := if_pos rfl
theorem up_n {α : Type} {f : Nat → α} {k j : Nat} {v : α} (h : ¬ j = k) : va_up f k v j = f j := if_neg h
/-- a final reference, in a constructor -/
theorem aw_putR {idx t i f t2 i2 : Nat} (hd : Dc M pc (.putfield idx) 3 pc2) (hl : FL M.1.cls idx t f) (k : AWq l E d M Z0 pc2 ls st I L (sR R t i f (some (t2, i2))) Z Q) (hf : fr t f = true := by rfl) (hty : refKind (Ty t f) = true := by rfl) (hfin : (Tt t f).2.2.2 = true ∧ M.1.name = "<init>" ∧ (Tt t f).1 = M.1.cls := by exact ⟨rfl, rfl, rfl⟩) : AWq l E d M Z0 pc ls (vr t2 i2 :: vr t i :: st) I L R Z Q := by
  have h0 : narrow (Ty t f) (.ref (ad E t2 i2)) = .ref (ad E t2 i2) ∧ fits (Ty t f) (.ref (ad E t2 i2)) = true := by
    revert hty
    cases Ty t f <;> intro h <;> first | exact ⟨rfl, rfl⟩ | cases h
  refine aw_putf (v := vr t2 i2) (I1 := I) (R1 := sR R t i f (some (t2, i2))) hd hl (Or.inr hfin) h0.1 h0.2 (fun j hj => ?_) (fun t2 i2 hne => ⟨rfl, sR_n hne⟩) (fun H hW hvd hv k q hq => ?_) k
  · unfold updV fV
    rw [sR_s]
    by_cases e : j = f
    · subst e
      rw [if_pos rfl, hf]
      simp [va_up, cv, cR, va_rf]
    · rw [if_neg e]
      simp [va_up, e]
  · rw [sR_s] at hq
    by_cases e : k = f
    · subst e
      rw [up_s] at hq
      cases hq
      exact hv
    · rw [up_n e] at hq
      exact hW.2.2 t i k q hq hvd
/-! ===== arrays ===== -/
theorem in_nI {n N : Nat} (h : n < N) (h2 : n < 2147483648) : ¬ (nI n < 0 ∨ N ≤ (nI n).toNatClampNeg) := by
  rw [nI_clamp h2]
  rintro (q | q)
  · exact nI_pos h2 q
  · omega
theorem af_ad {E : En} {t i : Nat} (h : t < 50) : Af E (ad E t i) := by unfold Af ad; rw [if_pos h]; omega
theorem aw_iald {t i n : Nat} {x : Int32} (hd : Dc M pc .iaload 1 pc2) (hx : x = nI n) (hn : n < alen Z t i) (hb : n < 2147483648) (k : AWq l E d M Z0 pc2 ls (vi (I t i n) :: st) I L R Z Q) (ht : 10 ≤ t ∧ t < 50 ∧ tc t = 0 := by exact ⟨by decide, by decide, rfl⟩) : AWq l E d M Z0 pc ls (vi x :: vr t i :: st) I L R Z Q := by
  obtain ⟨hd, rfl⟩ := hd
  subst hx
  refine k.lift (fun v1 v2 => ⟨vc1 trivial (vt1 (vt1 v1)), v2⟩) (fun p e Rm s m args below meth c cells slots Qs F als H locs hl v1 hW hS kk => ?_)
  have hat := hW.at (vd_of (vh1 (vt1 v1)) ht.2.1)
  rw [cell_i E I L R Z ht.1 (by omega) (by omega), ht.2.2] at hat
  refine W.iald F.1 F.2.1 hat ((F.2.2.2.2.2.1.1.2 0 _ (tys_at E (by decide))).1 _ (fun j => .int (I t i j))) (fun q => by cases q) (by show ¬ (_ ∨ (arrV _ _ _).slots.size ≤ _); rw [arrV_size]; exact in_nI hn hb) (v := .int (I t i n)) ?_ rfl rfl hd (kk als hl)
  show (arrV _ _ _).slots[_]? = _
  rw [nI_clamp hb, arrV_read _ _ hn]
theorem aw_bald {t i n : Nat} {x : Int32} (hd : Dc M pc .baload 1 pc2) (hx : x = nI n) (hn : n < alen Z t i) (hb : n < 2147483648) (k : AWq l E d M Z0 pc2 ls (vi (I t i n) :: st) I L R Z Q) (ht : 10 ≤ t ∧ t < 50 ∧ tc t = 2 := by exact ⟨by decide, by decide, rfl⟩) : AWq l E d M Z0 pc ls (vi x :: vr t i :: st) I L R Z Q := by
  obtain ⟨hd, rfl⟩ := hd
  subst hx
  refine k.lift (fun v1 v2 => ⟨vc1 trivial (vt1 (vt1 v1)), v2⟩) (fun p e Rm s m args below meth c cells slots Qs F als H locs hl v1 hW hS kk => ?_)
  have hat := hW.at (vd_of (vh1 (vt1 v1)) ht.2.1)
  rw [cell_i E I L R Z ht.1 (by omega) (by omega), ht.2.2] at hat
  refine W.bald F.1 F.2.1 hat ((F.2.2.2.2.2.1.1.2 2 _ (tys_at E (by decide))).1 _ (fun j => .int (I t i j))) (fun q => by cases q) (by show ¬ (_ ∨ (arrV _ _ _).slots.size ≤ _); rw [arrV_size]; exact in_nI hn hb) (v := .int (I t i n)) ?_ rfl rfl hd (kk als hl)
  show (arrV _ _ _).slots[_]? = _
  rw [nI_clamp hb, arrV_read _ _ hn]
theorem aw_lald {t i n : Nat} {x : Int32} (hd : Dc M pc .laload 1 pc2) (hx : x = nI n) (hn : n < alen Z t i) (hb : n < 2147483648) (k : AWq l E d M Z0 pc2 ls (vl (L t i n) :: st) I L R Z Q) (ht : 10 ≤ t ∧ t < 50 ∧ tc t = 1 := by exact ⟨by decide, by decide, rfl⟩) : AWq l E d M Z0 pc ls (vi x :: vr t i :: st) I L R Z Q := by
  obtain ⟨hd, rfl⟩ := hd
  subst hx
  refine k.lift (fun v1 v2 => ⟨vc1 trivial (vt1 (vt1 v1)), v2⟩) (fun p e Rm s m args below meth c cells slots Qs F als H locs hl v1 hW hS kk => ?_)
  have hat := hW.at (vd_of (vh1 (vt1 v1)) ht.2.1)
  rw [cell_l E I L R Z ht.1 ht.2.2] at hat
  refine W.lald F.1 F.2.1 hat ((F.2.2.2.2.2.1.1.2 1 _ (tys_at E (by decide))).1 _ (fun j => .long (L t i j))) (fun q => by cases q) (by show ¬ (_ ∨ (arrV _ _ _).slots.size ≤ _); rw [arrV_size]; exact in_nI hn hb) (v := .long (L t i n)) ?_ rfl rfl hd (kk als hl)
  show (arrV _ _ _).slots[_]? = _
  rw [nI_clamp hb, arrV_read _ _ hn]
theorem aw_aald {t i n : Nat} {x : Int32} {r : Option (Nat × Nat)} (hd : Dc M pc .aaload 1 pc2) (hx : x = nI n) (hn : n < alen Z t i) (hb : n < 2147483648) (hr : R t i n = r) (k : AWq l E d M Z0 pc2 ls (vo r :: st) I L R Z Q) (ht : 10 ≤ t ∧ t < 50 ∧ 3 ≤ tc t ∧ tc t < 8 ∧ (tcT (tc t)).isReference = true := by exact ⟨by decide, by decide, by decide, by decide, rfl⟩) : AWq l E d M Z0 pc ls (vi x :: vr t i :: st) I L R Z Q := by
  obtain ⟨hd, rfl⟩ := hd
  subst hx
  obtain ⟨r1, I2, L2, R2, Z2, hq, hz, k⟩ := k
  refine ⟨r1, I2, L2, R2, Z2, hq, hz, fun p e Rm s m args below meth c F h1 h2 h3 h4 als H locs hl v1 v2 hW hS => ?_⟩
  have hvd : VD Z t i := vd_of (vh1 (vt1 v1)) ht.2.1
  have hat := hW.at hvd
  rw [cell_r E I L R Z ht.1 ht.2.2.1] at hat
  have hvr : vv Z (vo r) := by
    cases hr2 : r with
    | none => trivial
    | some q => exact hW.2.2 t i n q (hr.trans hr2) hvd
  refine W.aald F.1 F.2.1 hat ((F.2.2.2.2.2.1.1.2 (tc t) _ (tys_at E ht.2.2.2.1)).1 _ (fun j => va_rf (cR E (R t i j)))) ht.2.2.2.2 (fun q => by cases q) (by show ¬ (_ ∨ (arrV _ _ _).slots.size ≤ _); rw [arrV_size]; exact in_nI hn hb) (v := cv E (vo r)) ?_ rfl rfl hd (k p e Rm s m args below meth c F h1 h2 h3 h4 als H locs hl (vc1 hvr (vt1 (vt1 v1))) v2 hW hS)
  show (arrV _ _ _).slots[_]? = _
  rw [nI_clamp hb, arrV_read _ _ hn, cv_o, ← hr]
theorem aw_alen {t i : Nat} {v : Int32} (hd : Dc M pc .arraylength 1 pc2) (hv : nI (alen Z t i) = v) (k : AWq l E d M Z0 pc2 ls (vi v :: st) I L R Z Q) (ht : 10 ≤ t ∧ t < 50 ∧ tc t < 8 := by exact ⟨by decide, by decide, by decide⟩) : AWq l E d M Z0 pc ls (vr t i :: st) I L R Z Q := by
  obtain ⟨hd, rfl⟩ := hd
  refine k.lift (fun v1 v2 => ⟨vc1 trivial (vt1 v1), v2⟩) (fun p e Rm s m args below meth c cells slots Qs F als H locs hl v1 hW hS kk => ?_)
  have hat := hW.at (vd_of (vh1 v1) ht.2.1)
  have hK := F.2.2.2.2.2.1.1
  by_cases h1 : tc t = 1
  · rw [cell_l E I L R Z ht.1 h1] at hat
    exact va_alen F.1 F.2.1 hK (va_one hat) 0 1 rfl (tys_at E (by decide)) hv hd (kk als hl)
  · by_cases h2 : tc t < 3
    · rw [cell_i E I L R Z ht.1 h2 h1] at hat
      exact va_alen F.1 F.2.1 hK (va_one hat) 0 (tc t) rfl (tys_at E ht.2.2) hv hd (kk als hl)
    · rw [cell_r E I L R Z ht.1 (by omega)] at hat
      exact va_alen F.1 F.2.1 hK (va_one hat) 0 (tc t) rfl (tys_at E ht.2.2) hv hd (kk als hl)
theorem arr_upd (cA : ClassId) (n k : Nat) (f : Nat → Int32) (x : Int32) : arrV cA n (updV (fun j => .int (f j)) k (.int x)) = vp_cell cA (n, .inl (upd f k x)) := by
  rw [vp_cell_i]
  congr 1
  funext q
  by_cases hq : q = k
  · subst hq
    simp [updV, upd]
  · simp [updV, upd, hq]
theorem arr_updL (cA : ClassId) (n k : Nat) (f : Nat → Int64) (x : Int64) : arrV cA n (updV (fun j => .long (f j)) k (.long x)) = vp_cell cA (n, .inr (.inl (vp_updL f k x))) := by
  rw [vp_cell_l]
  congr 1
  funext q
  by_cases hq : q = k
  · subst hq
    simp [updV, vp_updL]
  · simp [updV, vp_updL, hq]
theorem arr_updR (cA : ClassId) (n k : Nat) (f : Nat → Option Nat) (x : Option Nat) : arrV cA n (updV (fun j => va_rf (f j)) k (va_rf x)) = vp_cell cA (n, .inr (.inr (.inr (.inr (va_up f k x))))) := by
  rw [vp_cell_q]
  congr 1
  funext q
  by_cases hq : q = k
  · subst hq
    simp [updV, va_up]
  · simp [updV, va_up, hq]
theorem aw_iast {t i n : Nat} {x y : Int32} (hd : Dc M pc .iastore 1 pc2) (hx : x = nI n) (hn : n < alen Z t i) (hb : n < 2147483648) (k : AWq l E d M Z0 pc2 ls st (sI I t i n y) L R Z Q) (ht : 10 ≤ t ∧ t < 50 ∧ tc t = 0 := by exact ⟨by decide, by decide, rfl⟩) : AWq l E d M Z0 pc ls (vi y :: vi x :: vr t i :: st) I L R Z Q := by
  obtain ⟨hd, rfl⟩ := hd
  subst hx
  obtain ⟨r, I2, L2, R2, Z2, hq, hz, k⟩ := k
  refine ⟨r, I2, L2, R2, Z2, hq, hz, fun p e Rm s m args below meth c F h1 h2 h3 h4 als H locs hl v1 v2 hW hS => ?_⟩
  have hvd : VD Z t i := vd_of (vh1 (vt1 (vt1 v1))) ht.2.1
  have hat := hW.at hvd
  rw [cell_i E I L R Z ht.1 (by omega) (by omega), ht.2.2] at hat
  refine W.iast F.1 F.2.1 hat ((F.2.2.2.2.2.1.1.2 0 _ (tys_at E (by decide))).1 _ (fun j => .int (I t i j))) (fun q => by cases q) (by show ¬ (_ ∨ (arrV _ _ _).slots.size ≤ _); rw [arrV_size]; exact in_nI hn hb) rfl rfl hd fun H1 e1 e2 e3 => ?_
  refine k p e Rm s m args below meth c F h1 h2 h3 h4 als H1 _ hl (vt1 (vt1 (vt1 v1))) v2 (hW.put hvd e2 e3 ?_ (fun t2 i2 hne => ⟨sI_n hne, rfl, rfl⟩) (fun k q hq => hW.2.2 t i k q hq hvd)) (hS.put e2 e3 (af_ad ht.2.1))
  rw [cell_i E _ L R Z ht.1 (by omega) (by omega), ht.2.2, sI_s]
  show H1[_]? = some (vp_cell _ _)
  rw [e1, nI_clamp hb, ← arr_upd, ← arrV_store]
  rfl
theorem aw_bast {t i n : Nat} {x y : Int32} (hd : Dc M pc .bastore 1 pc2) (hx : x = nI n) (hn : n < alen Z t i) (hb : n < 2147483648) (k : AWq l E d M Z0 pc2 ls st (sI I t i n y.toInt8.toInt32) L R Z Q) (ht : 10 ≤ t ∧ t < 50 ∧ tc t = 2 := by exact ⟨by decide, by decide, rfl⟩) : AWq l E d M Z0 pc ls (vi y :: vi x :: vr t i :: st) I L R Z Q := by
  obtain ⟨hd, rfl⟩ := hd
  subst hx
  obtain ⟨r, I2, L2, R2, Z2, hq, hz, k⟩ := k
  refine ⟨r, I2, L2, R2, Z2, hq, hz, fun p e Rm s m args below meth c F h1 h2 h3 h4 als H locs hl v1 v2 hW hS => ?_⟩
  have hvd : VD Z t i := vd_of (vh1 (vt1 (vt1 v1))) ht.2.1
  have hat := hW.at hvd
  rw [cell_i E I L R Z ht.1 (by omega) (by omega), ht.2.2] at hat
  refine W.bast F.1 F.2.1 hat ((F.2.2.2.2.2.1.1.2 2 _ (tys_at E (by decide))).1 _ (fun j => .int (I t i j))) (fun q => by cases q) (by show ¬ (_ ∨ (arrV _ _ _).slots.size ≤ _); rw [arrV_size]; exact in_nI hn hb) rfl rfl hd fun H1 e1 e2 e3 => ?_
  refine k p e Rm s m args below meth c F h1 h2 h3 h4 als H1 _ hl (vt1 (vt1 (vt1 v1))) v2 (hW.put hvd e2 e3 ?_ (fun t2 i2 hne => ⟨sI_n hne, rfl, rfl⟩) (fun k q hq => hW.2.2 t i k q hq hvd)) (hS.put e2 e3 (af_ad ht.2.1))
  rw [cell_i E _ L R Z ht.1 (by omega) (by omega), ht.2.2, sI_s]
  show H1[_]? = some (vp_cell _ _)
  rw [e1, nI_clamp hb, ← arr_upd, ← arrV_store]
  rfl
theorem aw_last {t i n : Nat} {x : Int32} {y : Int64} (hd : Dc M pc .lastore 1 pc2) (hx : x = nI n) (hn : n < alen Z t i) (hb : n < 2147483648) (k : AWq l E d M Z0 pc2 ls st I (sL L t i n y) R Z Q) (ht : 10 ≤ t ∧ t < 50 ∧ tc t = 1 := by exact ⟨by decide, by decide, rfl⟩) : AWq l E d M Z0 pc ls (vl y :: vi x :: vr t i :: st) I L R Z Q := by
  obtain ⟨hd, rfl⟩ := hd
  subst hx
  obtain ⟨r, I2, L2, R2, Z2, hq, hz, k⟩ := k
  refine ⟨r, I2, L2, R2, Z2, hq, hz, fun p e Rm s m args below meth c F h1 h2 h3 h4 als H locs hl v1 v2 hW hS => ?_⟩
  have hvd : VD Z t i := vd_of (vh1 (vt1 (vt1 v1))) ht.2.1
  have hat := hW.at hvd
  rw [cell_l E I L R Z ht.1 ht.2.2] at hat
  refine W.last F.1 F.2.1 hat ((F.2.2.2.2.2.1.1.2 1 _ (tys_at E (by decide))).1 _ (fun j => .long (L t i j))) (fun q => by cases q) (by show ¬ (_ ∨ (arrV _ _ _).slots.size ≤ _); rw [arrV_size]; exact in_nI hn hb) rfl rfl hd fun H1 e1 e2 e3 => ?_
  refine k p e Rm s m args below meth c F h1 h2 h3 h4 als H1 _ hl (vt1 (vt1 (vt1 v1))) v2 (hW.put hvd e2 e3 ?_ (fun t2 i2 hne => ⟨rfl, sL_n hne, rfl⟩) (fun k q hq => hW.2.2 t i k q hq hvd)) (hS.put e2 e3 (af_ad ht.2.1))
  rw [cell_l E I _ R Z ht.1 ht.2.2, sL_s]
  show H1[_]? = some (vp_cell _ _)
  rw [e1, nI_clamp hb, ← arr_updL, ← arrV_store]
  rfl
/-- an object comes to a row of objects of its class -/
theorem aw_aast {t i n t2 i2 : Nat} {x : Int32} (hd : Dc M pc .aastore 1 pc2) (hx : x = nI n) (hn : n < alen Z t i) (hb : n < 2147483648) (k : AWq l E d M Z0 pc2 ls st I L (sR R t i n (some (t2, i2))) Z Q) (ht : 10 ≤ t ∧ t < 50 ∧ 3 ≤ tc t ∧ tc t < 8 ∧ t2 < 10 ∧ tcT (tc t) = .object (Rn t2) := by exact ⟨by decide, by decide, by decide, by decide, by decide, rfl⟩) : AWq l E d M Z0 pc ls (vr t2 i2 :: vi x :: vr t i :: st) I L R Z Q := by
  obtain ⟨hd, rfl⟩ := hd
  subst hx
  obtain ⟨r, I2, L2, R2, Z2, hq, hz, k⟩ := k
  refine ⟨r, I2, L2, R2, Z2, hq, hz, fun p e Rm s m args below meth c F h1 h2 h3 h4 als H locs hl v1 v2 hW hS => ?_⟩
  obtain ⟨ht1, ht2, ht3, ht4, ht5, ht6⟩ := ht
  have hvd : VD Z t i := vd_of (vh1 (vt1 (vt1 v1))) ht2
  have hat := hW.at hvd
  have hvd2 : VD Z t2 i2 := vd_of (vh1 v1) (by omega)
  have hat2 := hW.at hvd2
  have hK := F.2.2.2.2.2.1.1
  rw [cell_r E I L R Z ht1 ht3] at hat
  rw [cell_o E I L R Z ht5] at hat2
  obtain ⟨r', hr', cellV, g1, g2, g3, -⟩ := hat2
  have hcls := (hK.1 t2 _ (cl_at t2 ht5)).2
  have hra := (hK.2 (tc t) _ (tys_at E ht4)).2
  rw [ht6] at hra
  obtain ⟨kA, comp, k1, k2, k3, -⟩ := hra
  have hcomp : comp = E.1.1 t2 := Option.some.inj (k3.symm.trans hcls.1)
  subst hcomp
  obtain ⟨kC, hkC, -⟩ := hcls.2
  have hin := in_nI hn hb
  refine W.aast F.1 F.2.1 hat (fun q h => by cases h) (fun h => by cases h) k1 k2 rfl hkC ⟨fun q => hin (Or.inl q), by show _ < (arrV _ _ _).slots.size; rw [arrV_size, nI_clamp hb]; exact hn⟩ g1 (fun q h => by rw [g3] at h; cases h) (by rw [g2]; exact hkC) (by rw [g2]; exact va_assign hcls) rfl rfl hd fun H1 e1 e2 e3 => ?_
  refine k p e Rm s m args below meth c F h1 h2 h3 h4 als H1 _ hl (vt1 (vt1 (vt1 v1))) v2 (hW.put hvd e2 e3 ?_ (fun t2 i2 hne => ⟨rfl, rfl, sR_n hne⟩) (fun k q hq => ?_)) (hS.put e2 e3 (af_ad ht2))
  · rw [cell_r E I L _ Z ht1 ht3, sR_s]
    show H1[_]? = some (vp_cell _ _)
    have e4 : (fun j => cR E (va_up (R t i) n (some (t2, i2)) j)) = va_up (fun j => cR E (R t i j)) n (some (ad E t2 i2)) := by
      funext j
      by_cases e : j = n
      · subst e
        rw [up_s, up_s]
        rfl
      · rw [up_n e, up_n e]
    rw [e1, nI_clamp hb, e4, ← arr_updR, ← arrV_store]
    rfl
  · rw [sR_s] at hq
    by_cases e : k = n
    · subst e
      rw [up_s] at hq
      cases hq
      exact Or.inr hvd2
    · rw [up_n e] at hq
      exact hW.2.2 t i k q hq hvd
/-! ===== ends ===== -/
theorem aw_iret {x : Int32} {ty : FieldType} (hd : Dc M pc .ireturn 1 pc2) (hr : M.2.2.2 = some ty) (hn : narrow ty (.int x) = .int x) (hq : Q (some (vi x)) I L R Z) : AWq l E d M Z0 pc ls [vi x] I L R Z Q := by
  obtain ⟨hd, -⟩ := hd
  refine ⟨some (vi x), I, L, R, Z, hq, ⟨Nat.le_refl _, Nat.le_refl _⟩, fun p e Rm s m args below meth c F h1 h2 h3 h4 als H locs hl v1 v2 hW hS => ?_⟩
  exact W.zret F.1 F.2.1 (F.2.2.2.2.2.2.1.trans hr) hn (fun t ht hwm => ⟨rfl, by rw [ht]; exact hW, fun v hv => by cases hv; trivial, hS.F ht⟩) hS.2.2 hd F.2.2.2.2.2.2.2.1
theorem aw_lret {x : Int64} (hd : Dc M pc .lreturn 1 pc2) (hr : M.2.2.2 = some .long) (hq : Q (some (vl x)) I L R Z) : AWq l E d M Z0 pc ls [vl x] I L R Z Q := by
  obtain ⟨hd, -⟩ := hd
  refine ⟨some (vl x), I, L, R, Z, hq, ⟨Nat.le_refl _, Nat.le_refl _⟩, fun p e Rm s m args below meth c F h1 h2 h3 h4 als H locs hl v1 v2 hW hS => ?_⟩
  exact W.lret F.1 F.2.1 (F.2.2.2.2.2.2.1.trans hr) (fun t ht hwm => ⟨rfl, by rw [ht]; exact hW, fun v hv => by cases hv; trivial, hS.F ht⟩) hS.2.2 hd F.2.2.2.2.2.2.2.1
theorem aw_vret (hd : Dc M pc .return_ 1 pc2) (hr : M.2.2.2 = none) (hq : Q none I L R Z) : AWq l E d M Z0 pc ls [] I L R Z Q := by
  obtain ⟨hd, -⟩ := hd
  refine ⟨none, I, L, R, Z, hq, ⟨Nat.le_refl _, Nat.le_refl _⟩, fun p e Rm s m args below meth c F h1 h2 h3 h4 als H locs hl v1 v2 hW hS => ?_⟩
  exact W.vret F.1 F.2.1 (F.2.2.2.2.2.2.1.trans hr) (fun t ht hwm => ⟨rfl, by rw [ht]; exact hW, fun v hv => (by cases hv), hS.F ht⟩) hS.2.2 hd F.2.2.2.2.2.2.2.1
theorem aw_aret {r : Option (Nat × Nat)} {rt : FieldType} (hd : Dc M pc .areturn 1 pc2) (hr : M.2.2.2 = some rt) (hrt : (∃ n, rt = .object n) ∨ ∃ t, rt = .array t) (hq : Q (some (vo r)) I L R Z) : AWq l E d M Z0 pc ls [vo r] I L R Z Q := by
  obtain ⟨hd, -⟩ := hd
  refine ⟨some (vo r), I, L, R, Z, hq, ⟨Nat.le_refl _, Nat.le_refl _⟩, fun p e Rm s m args below meth c F h1 h2 h3 h4 als H locs hl v1 v2 hW hS => ?_⟩
  exact W.aret F.1 F.2.1 (F.2.2.2.2.2.2.1.trans hr) hrt (by cases r with
    | none => exact Or.inl rfl
    | some q => exact Or.inr ⟨_, rfl⟩) (fun t ht hwm => ⟨rfl, by rw [ht]; exact hW, fun v hv => by cases hv; exact vh1 v1, hS.F ht⟩) hS.2.2 hd F.2.2.2.2.2.2.2.1
end HEAP
end
section
/-! ===== calls ===== -/
def rst : Option AV → List AV → List AV
  | some v, st => v :: st
  | none, st => st
def MF (M : Mt) (n : Nat) : Prop := Cond.code M.1 M.2.1 M.2.2.1 M.2.2.2 ∈ G ∧ Cond.initialized M.1.cls ∈ G ∧ (M.1.cls ≠ "java/lang/invoke/MethodHandle" ∧ M.1.cls ≠ "java/lang/invoke/VarHandle" ∧ (parseMethodDescriptor M.1.desc).map (fun d => d.parameters.length) = some n) ∧ M.2.2.1 ≤ 21 ∧ plainFor M.1 = true
def MV (M : Mt) : Prop := Cond.instanceMethod M.1 ∈ G ∧ Cond.selects M.1.cls M.1 M.1 ∈ G
def MS (M : Mt) : Prop := Cond.static M.1 ∈ G
def MI (M : Mt) : Prop := Cond.instanceMethod M.1 ∈ G ∧ M.1.name = "<init>" ∧ M.2.2.2 = none
def wd (v : AV) : Nat := if isLg (some v) then 2 else 1
theorem wd_cat (E : En) (v : AV) : (cv E v).category = wd v := by
  match v with
  | .inl _ => rfl
  | .inr (.inl _) => rfl
  | .inr (.inr none) => rfl
  | .inr (.inr (some _)) => rfl
theorem wd_sum (E : En) (st : List AV) : ((st.map (cv E)).map fun v => v.category).sum = (st.map wd).sum := by
  rw [List.map_map]
  congr 1
  exact List.map_congr_left (fun v _ => wd_cat E v)
theorem PcM.blind {E : En} {as : List AV} {I : It} {L : Lt} {R : Rt} {Z : Zt} : FrameBlind (PcM E as I L R Z) := fun a U g mk h => by
  obtain ⟨h1, h2, h3, h4⟩ := h
  exact ⟨h1, StF.same (s := U) rfl h2, h3, h4⟩
theorem goodM {M : Mt} {n : Nat} (h : MF M n) : GoodIn G (wsM M) := fun w hw => by
  rcases List.mem_cons.mp hw with rfl | h1
  · exact ⟨h.1, G_good _ h.1⟩
  · exact ⟨h1, G_good _ h1⟩
section ENTRY
variable {l : Launch} {E : En} {d : Nat} {M : Mt} {I : It} {L : Lt} {R : Rt} {Z : Zt} {Q : Qt}
/-- the locals at a method's entry -/
def lE : List AV → List (Option AV)
  | [] => []
  | v :: t => if isLg (some v) then some v :: none :: lE t else some v :: lE t
theorem lE_args (E : En) : ∀ (as : List AV) (k : Nat), lv_args k (as.map (cv E)) = (lvP (lE as) k).map fun q => (q.1, cv E q.2)
  | [], k => rfl
  | v :: t, k => by
    by_cases h : isLg (some v) = true
    · have h2 : (cv E v).category = 2 := (cv_cat E v).mpr h
      unfold lE
      rw [if_pos h]
      simp only [List.map_cons, lv_args, lvP, h2, Nat.add_assoc]
      rw [if_pos trivial, lE_args E t (k + 2)]
    · have h3 : isLg (some v) = false := by simpa using h
      have h2 : (cv E v).category = 1 := cat1 E h3
      unfold lE
      rw [if_neg h]
      simp only [List.map_cons, lv_args, lvP, h2]
      rw [if_neg (by decide), lE_args E t (k + 1)]
theorem lvP_rep (n k : Nat) : lvP (List.replicate n none) k = [] := by
  induction n generalizing k with
  | zero => rfl
  | succ n ih => rw [List.replicate_succ]; exact ih (k + 1)
theorem lvP_app (a b : List (Option AV)) (k : Nat) : lvP (a ++ b) k = lvP a k ++ lvP b (k + a.length) := by
  induction a generalizing k with
  | nil => rfl
  | cons x t ih =>
    cases x with
    | none =>
      show lvP (t ++ b) (k + 1) = lvP t (k + 1) ++ _
      rw [ih, List.length_cons]
      congr 2
      omega
    | some v =>
      show (k, v) :: lvP (t ++ b) (k + 1) = (k, v) :: lvP t (k + 1) ++ _
      rw [ih, List.length_cons, List.cons_append]
      congr 3
      omega
theorem lE_mem {v : AV} : ∀ (as : List AV), some v ∈ lE as → v ∈ as
  | [], h => by cases h
  | w :: t, h => by
    unfold lE at h
    split at h
    · rcases List.mem_cons.mp h with e | h
      · cases e
        exact List.mem_cons_self
      · rcases List.mem_cons.mp h with e | h
        · cases e
        · exact List.mem_cons_of_mem _ (lE_mem t h)
    · rcases List.mem_cons.mp h with e | h
      · cases e
        exact List.mem_cons_self
      · exact List.mem_cons_of_mem _ (lE_mem t h)
theorem lE_len (E : En) : ∀ (as : List AV), (lg_sl (as.map (cv E))).length = (lE as).length
  | [] => rfl
  | v :: t => by
    have ih := lE_len E t
    by_cases h : isLg (some v) = true
    · have h2 : (cv E v).category = 2 := (cv_cat E v).mpr h
      unfold lE
      rw [if_pos h]
      simp [lg_sl, h2] at ih ⊢
      omega
    · have h3 : isLg (some v) = false := by simpa using h
      have h2 : (cv E v).category = 1 := cat1 E h3
      unfold lE
      rw [if_neg h]
      simp [lg_sl, h2] at ih ⊢
      omega
/-- a contract out of a walk from the entry -/
theorem AMet.of {as : List AV} {n : Nat} (hf : MF M n) {ls : List (Option AV)} (hls : lE as ++ List.replicate (M.2.2.1 - (lE as).length) none = ls) (hle : (lE as).length ≤ M.2.2.1) (k : AWq l E d M Z 0 ls [] I L R Z Q) : AMet l E d M as I L R Z Q := by
  obtain ⟨r, I2, L2, R2, Z2, hq, hz, k⟩ := k
  refine ⟨r, I2, L2, R2, Z2, hq, hz, ?_⟩
  refine va_MetF (cc := M.2.1) (maxL := M.2.2.1) (ret := M.2.2.2) hf.2.2.2.2 rfl ?_
  intro p e s m args below meth c s₁ B hml hv
  obtain ⟨rfl, hSt, hW, hvv⟩ := hv
  have hts := atoms_spec (ws := wsM M) B.pre
  have F : Fx E d M p (headSpec (wsM M) (rmM d (Z2.2.1 - Z.2.1) (Z2.2.2 - Z.2.2))).room s m (as.map (cv E)).toArray meth c := ⟨B.exec, B.bytes, hml, findClass_of_methodNamed B.named, fun w hw => hts w (List.mem_cons_of_mem _ hw), hSt, B.returns, B.notSynchronized, (name_of_methodNamed B.named B.method).1, Nat.le_refl _, Nat.le_refl _, by rw [hW.1]; omega⟩
  have hl := lv_entry (as.map (cv E)) (n := M.2.2.1) (by rw [lE_len]; exact hle)
  rw [lg_entry_eq]
  generalize (lg_sl (as.map (cv E)) ++ List.replicate (M.2.2.1 - (lg_sl (as.map (cv E))).length) Slot.unset).toArray = als at hl ⊢
  have hl2 : lvH E als M.2.2.1 ls := by
    refine ⟨?_, ?_⟩
    · rw [lE_args] at hl
      rw [← hls, lvP_app, lvP_rep, List.append_nil]
      exact hl
    · rw [← hls, List.length_append, List.length_replicate]
      omega
  have h := k p e _ s m _ below meth c F (Nat.le_refl _) (Nat.le_refl _) (Nat.le_refl _) (Nat.le_refl _) als s.heap [] hl2 (fun v hv => by cases hv) (fun v hv => by
    rw [← hls] at hv
    rcases List.mem_append.mp hv with h1 | h1
    · exact hvv v (lE_mem as h1)
    · have := (List.mem_replicate.mp h1).2
      cases this) hW va_S.rf
  rw [Nat.sub_self, Nat.sub_self] at h
  exact h
end ENTRY
section CALLS
variable {l : Launch} {E : En} {d : Nat} {M M2 : Mt} {Z0 : Zt} {pc pc2 tgt n : Nat} {ls : List (Option AV)} {st : List AV} {I : It} {L : Lt} {R : Rt} {Z : Zt} {Q : Qt}
theorem callG {p : Program} {e : Env} {Rm : Room} {s : State} {m : MethodId} {args : Array Value} {below : List Frame} {meth : Method} {c : Code} {H : Heap} {locs : List Loc} {cells slots mc ms : Nat} {Qs : State → Prop} {als : Array Slot} {st0 rest : List Value} {a : Array Value} {r : Option AV} {I1 : It} {L1 : Lt} {R1 : Rt} {Z1 : Zt}
    (hr : va_Run p l e Rm s m args below meth c H locs cells slots mc ms (F0 m pc als st0) rest (QcM E r I1 L1 R1 Z1 a) (Af E)) (hS : va_S (Af E) s.heap H locs)
    (kk : ∀ (H1 : Heap) (locs1 : List Loc), Wo E I1 L1 R1 Z1 H1 → (∀ v, r = some v → vv Z1 v) → va_S (Af E) s.heap H1 locs1 → W p l e Rm s m args below meth c H1 locs1 (cells + mc) (slots + ms) Qs (F0 m (pc + 3) als ((r.map (cv E)).toList ++ rest))) : W p l e Rm s m args below meth c H locs cells slots Qs (F0 m pc als st0) := by
  intro T hT X
  obtain ⟨v, st₀, t, T', L, h0, X', hL, e1, e2, ⟨hv, hw, hvv, hz, hk⟩, st⟩ := hr T hT X
  cases hv
  rw [h0] at hz hk
  obtain ⟨t2, a1, b1⟩ := kk T'.heap (locs ++ L) (by rw [e1]; exact hw) hvv
    ⟨Nat.le_trans hS.1 (by rw [e1]; exact hz), fun q h1 h2 => by rw [e1, hk q (Nat.lt_of_lt_of_le h1 hS.1) h2]; exact hS.2.1 q h1 h2, fun q hq => by
      rcases List.mem_append.mp hq with h | h
      · exact hS.2.2 q h
      · exact hL q h⟩ T' rfl X'
  exact ⟨t2, st t2 a1, b1⟩
theorem StF.at {s U : State} {H : Heap} {locs : List Loc} (h : StF E s s.heap) (hB : E.2.2.1 ≤ s.heap.size) (hS : va_S (Af E) s.heap H locs) (hU : U.heap = H) (hw : s.WarmedH U.vm) : StF E U U.heap := by
  rw [hU]
  exact (h.kept (H1 := H) (fun a h1 h2 => hS.2.1 a h1 h2) hB).moved hw
/-- what is behind a call -/
theorem AWq.call {as stk : List AV} (hm : AMet l E d M2 as I L R Z (fun r I1 L1 R1 Z1 => AWq l E (d + 1) M Z0 (pc + 3) ls (rst r st) I1 L1 R1 Z1 Q)) (hst : ∀ v, (∀ w ∈ stk, vv Z w) → v ∈ st → vv Z v)
    (hrun : ∀ (p : Program) (e : Env) (Rm : Room) (s : State) (m : MethodId) (args : Array Value) (below : List Frame) (meth : Method) (c : Code), Fx E (d + 1) M p Rm s m args meth c → ∀ (als : Array Slot) (H : Heap) (locs : List Loc) (cells slots mc ms : Nat) (Qc : Array Value → State → Outcome → State → Prop), als.size = M.2.2.1 → (∀ v ∈ stk, vv Z v) → Wo E I L R Z H → va_S (Af E) s.heap H locs → cells + mc ≤ Rm.cells ∧ slots + ms ≤ Rm.slots →
      Met l M2.1 (wsM M2) (rmM d mc ms) (PcM E as I L R Z) Qc mc ms (Af E) → va_Run p l e Rm s m args below meth c H locs cells slots mc ms (F0 m pc als (stk.map (cv E))) (st.map (cv E)) (Qc (as.map (cv E)).toArray) (Af E)) :
    AWq l E (d + 1) M Z0 pc ls stk I L R Z Q := by
  obtain ⟨r, I1, L1, R1, Z1, ⟨r2, I2, L2, R2, Z2, hq, hz2, k⟩, hz, hM⟩ := hm
  refine ⟨r2, I2, L2, R2, Z2, hq, ⟨Nat.le_trans hz.1 hz2.1, Nat.le_trans hz.2 hz2.2⟩, fun p e Rm s m args below meth c F h1 h2 h3 h4 als H locs hl v1 v2 hW hS => ?_⟩
  have hru := hrun p e Rm s m args below meth c F als H locs (Z.2.1 - Z0.2.1) (Z.2.2 - Z0.2.2) _ _ _ hl.1.1 v1 hW hS ⟨by have := hz.1; have := hz2.1; omega, by have := hz.2; have := hz2.2; omega⟩ hM
  refine callG hru hS (fun H1 locs1 hW1 hv1 hS1 => ?_)
  have e1 : Z.2.1 - Z0.2.1 + (Z1.2.1 - Z.2.1) = Z1.2.1 - Z0.2.1 := by have := hz.1; omega
  have e2 : Z.2.2 - Z0.2.2 + (Z1.2.2 - Z.2.2) = Z1.2.2 - Z0.2.2 := by have := hz.2; omega
  rw [e1, e2]
  have e3 : (r.map (cv E)).toList ++ st.map (cv E) = (rst r st).map (cv E) := by cases r <;> rfl
  rw [e3]
  refine k p e Rm s m args below meth c F h1 h2 (Nat.le_trans h3 hz.1) (Nat.le_trans h4 hz.2) als H1 locs1 hl (fun v hv => ?_) (fun v hv => (v2 v hv).mono hz.1) hW1 hS1
  cases r with
  | none => exact (hst v v1 hv).mono hz.1
  | some w =>
    rcases List.mem_cons.mp hv with e | hv
    · rw [e]
      exact hv1 w rfl
    · exact (hst v v1 hv).mono hz.1
theorem recv {s : State} {H : Heap} {t i : Nat} (hK : va_K E.1 classes (tys E) s) (hW : Wo E I L R Z H) (hvd : VD Z t i) (ht : t < 10) : ∃ cellB : Cell, H[ad E t i]? = some cellB ∧ cellB.vm.isStatics = false ∧ s.vm.findClass (Rn t) = some cellB.cls := by
  have hat := hW.at hvd
  rw [cell_o E I L R Z ht] at hat
  obtain ⟨r1, e1, cell, q1, q2, q3, q4⟩ := hat
  exact ⟨cell, q1, by rw [q3]; rfl, by rw [q2]; exact (hK.1 t _ (cl_at t ht)).2.1⟩
theorem roomM {M2 : Mt} {d mc ms : Nat} {Rm : Room} (h : M2.2.2.1 ≤ 21) (h1 : d + 1 ≤ Rm.frames) (h2 : 40 * (d + 1) ≤ Rm.locals) : (rmM d mc ms).frames + 1 ≤ Rm.frames ∧ 8 + (M2.2.2.1 + 11) + (rmM d mc ms).locals ≤ Rm.locals := ⟨h1, by show 8 + (M2.2.2.1 + 11) + 40 * d ≤ _; omega⟩
theorem aw_callV {idx t i : Nat} {as : List AV} (hd : Dc M pc (.invokevirtual idx) 3 pc2) (hlk : Cond.methodLink M.1.cls idx M2.1 ∈ G) (hf : MF M2 n) (hv : MV M2) (ht : t < 10 ∧ Rn t = M2.1.cls) (hn : as.length = n) (hw : (st.map wd).sum ≤ 8)
    (hm : AMet l E d M2 (vr t i :: as) I L R Z (fun r I1 L1 R1 Z1 => AWq l E (d + 1) M Z0 pc2 ls (rst r st) I1 L1 R1 Z1 Q)) : AWq l E (d + 1) M Z0 pc ls (as.reverse ++ vr t i :: st) I L R Z Q := by
  obtain ⟨hd, rfl⟩ := hd
  refine AWq.call hm (fun v h1 h2 => h1 v (List.mem_append_right _ (List.mem_cons_of_mem _ h2))) (fun p e Rm s m args below meth c F als H locs cells slots mc ms Qc hsz v1 hW hS hr hM => ?_)
  have hts := F.2.2.2.2.1
  have hvd : VD Z t i := vd_of (v1 _ (List.mem_append_right _ List.mem_cons_self)) (by omega)
  have cw : CallW Rm s args M.1.cls M2.1.cls idx M2.1 M2.2.1 M2.2.2.1 M2.2.2.2 (wsM M2) (rmM d mc ms) mc ms n :=
    ⟨callB_of n hts (goodM hf) rfl rfl rfl (hts _ hf.2.1) (hts _ hlk) hf.2.2.1 (roomM hf.2.2.2.1 F.2.2.2.2.2.2.2.2.2.1 F.2.2.2.2.2.2.2.2.2.2.1), hts _ hv.1, hts _ hv.2⟩
  refine va_runV (As := as.map (cv E)) (b := ad E t i) ⟨F.1, F.2.1, F.2.2.1, F.2.2.2.1, hts⟩ hM cw ⟨PcM.blind, by rw [← ht.2]; exact recv F.2.2.2.2.2.1.1 hW hvd ht.1, fun U hU hw => ⟨rfl, F.2.2.2.2.2.1.at F.2.2.2.2.2.2.2.2.2.2.2 hS hU hw, by rw [hU]; exact hW, ?_⟩⟩ rfl (by rw [List.length_map]; exact hn) hsz ?_ (lv_room (by rw [wd_sum]; exact hw)) hd hr
  · intro v hv
    rcases List.mem_cons.mp hv with e | hv
    · rw [e]; exact Or.inr hvd
    · exact v1 v (List.mem_append_left _ (List.mem_reverse.mpr hv))
  · show (as.reverse ++ vr t i :: st).map (cv E) = _
    rw [List.map_append, List.map_reverse, List.map_cons]
    rfl
theorem aw_callS {idx : Nat} {as : List AV} (hd : Dc M pc (.invokestatic idx) 3 pc2) (hlk : Cond.methodLink M.1.cls idx M2.1 ∈ G) (hf : MF M2 n) (hv : MS M2) (hn : as.length = n) (hw : (st.map wd).sum ≤ 8)
    (hm : AMet l E d M2 as I L R Z (fun r I1 L1 R1 Z1 => AWq l E (d + 1) M Z0 pc2 ls (rst r st) I1 L1 R1 Z1 Q)) : AWq l E (d + 1) M Z0 pc ls (as.reverse ++ st) I L R Z Q := by
  obtain ⟨hd, rfl⟩ := hd
  refine AWq.call hm (fun v h1 h2 => h1 v (List.mem_append_right _ h2)) (fun p e Rm s m args below meth c F als H locs cells slots mc ms Qc hsz v1 hW hS hr hM => ?_)
  have hts := F.2.2.2.2.1
  refine va_runS (As := as.map (cv E)) ⟨F.1, F.2.1, F.2.2.1, F.2.2.2.1, hts⟩ hM ⟨callB_of n hts (goodM hf) rfl rfl rfl (hts _ hf.2.1) (hts _ hlk) hf.2.2.1 (roomM hf.2.2.2.1 F.2.2.2.2.2.2.2.2.2.1 F.2.2.2.2.2.2.2.2.2.2.1), hts _ hv⟩ ⟨PcM.blind, fun U hU hw => ⟨rfl, F.2.2.2.2.2.1.at F.2.2.2.2.2.2.2.2.2.2.2 hS hU hw, by rw [hU]; exact hW, ?_⟩⟩ rfl (by rw [List.length_map]; exact hn) hsz ?_ (lv_room (by rw [wd_sum]; exact hw)) hd hr
  · intro v hv
    exact v1 v (List.mem_append_left _ (List.mem_reverse.mpr hv))
  · show (as.reverse ++ st).map (cv E) = _
    rw [List.map_append, List.map_reverse]
theorem aw_callSN {idx : Nat} {as : List AV} {host : String} (hd : Dc M pc (.invokestatic idx) 3 pc2) (hlk : Cond.methodLinkNest M.1.cls idx M2.1 host ∈ Gn) (hf : MF M2 n) (hv : MS M2) (hn : as.length = n) (hw : (st.map wd).sum ≤ 8)
    (hm : AMet l E d M2 as I L R Z (fun r I1 L1 R1 Z1 => AWq l E (d + 1) M Z0 pc2 ls (rst r st) I1 L1 R1 Z1 Q)) : AWq l E (d + 1) M Z0 pc ls (as.reverse ++ st) I L R Z Q := by
  obtain ⟨hd, rfl⟩ := hd
  refine AWq.call hm (fun v h1 h2 => h1 v (List.mem_append_right _ h2)) (fun p e Rm s m args below meth c F als H locs cells slots mc ms Qc hsz v1 hW hS hr hM => ?_)
  have hts := F.2.2.2.2.1
  refine va_runSN (As := as.map (cv E)) ⟨F.1, F.2.1, F.2.2.1, F.2.2.2.1, hts⟩ hM ⟨va_cnB n hts (goodM hf) rfl rfl rfl (F.2.2.2.2.2.1.2.1 _ hlk) (hts _ hf.2.1) hf.2.2.1 (roomM hf.2.2.2.1 F.2.2.2.2.2.2.2.2.2.1 F.2.2.2.2.2.2.2.2.2.2.1), hts _ hv, trivial⟩ ⟨PcM.blind, fun U hU hw => ⟨rfl, F.2.2.2.2.2.1.at F.2.2.2.2.2.2.2.2.2.2.2 hS hU hw, by rw [hU]; exact hW, ?_⟩⟩ rfl (by rw [List.length_map]; exact hn) hsz ?_ (lv_room (by rw [wd_sum]; exact hw)) hd hr
  · intro v hv
    exact v1 v (List.mem_append_left _ (List.mem_reverse.mpr hv))
  · show (as.reverse ++ st).map (cv E) = _
    rw [List.map_append, List.map_reverse]
theorem aw_callI {idx t i : Nat} {as : List AV} (hd : Dc M pc (.invokespecial idx) 3 pc2) (hlk : Cond.methodLink M.1.cls idx M2.1 ∈ G) (hf : MF M2 n) (hv : MI M2) (hn : as.length = n) (hw : (st.map wd).sum ≤ 8)
    (hm : AMet l E d M2 (vr t i :: as) I L R Z (fun r I1 L1 R1 Z1 => AWq l E (d + 1) M Z0 pc2 ls (rst r st) I1 L1 R1 Z1 Q)) : AWq l E (d + 1) M Z0 pc ls (as.reverse ++ vr t i :: st) I L R Z Q := by
  obtain ⟨hd, rfl⟩ := hd
  refine AWq.call hm (fun v h1 h2 => h1 v (List.mem_append_right _ (List.mem_cons_of_mem _ h2))) (fun p e Rm s m args below meth c F als H locs cells slots mc ms Qc hsz v1 hW hS hr hM => ?_)
  have hts := F.2.2.2.2.1
  have hfc := hf.1
  rw [hv.2.2] at hfc
  have cb : CallB Rm s args M.1.cls idx M2.1 M2.2.1 M2.2.2.1 none (wsM M2) (rmM d mc ms) mc ms n := by
    have := callB_of (bytes := M2.2.1) (maxL := M2.2.2.1) (ret := M2.2.2.2) (ws' := G) (own := M.1.cls) (index := idx) (y := M2.1) (ws := wsM M2) (rm := rmM d mc ms) (mc := mc) (ms := ms) n hts (goodM hf) rfl rfl rfl (hts _ hf.2.1) (hts _ hlk) hf.2.2.1 (roomM hf.2.2.2.1 F.2.2.2.2.2.2.2.2.2.1 F.2.2.2.2.2.2.2.2.2.2.1)
    rw [hv.2.2] at this
    exact this
  refine va_runI (As := as.map (cv E)) (b := ad E t i) ⟨F.1, F.2.1, F.2.2.1, F.2.2.2.1, hts⟩ hM ⟨cb, hv.2.1, hts _ hv.1⟩ ⟨PcM.blind, fun U hU hw => ⟨rfl, F.2.2.2.2.2.1.at F.2.2.2.2.2.2.2.2.2.2.2 hS hU hw, by rw [hU]; exact hW, ?_⟩⟩ rfl (by rw [List.length_map]; exact hn) hsz ?_ (lv_room (by rw [wd_sum]; exact hw)) hd hr
  · intro v hv
    rcases List.mem_cons.mp hv with e | hv
    · rw [e]; exact v1 _ (List.mem_append_right _ List.mem_cons_self)
    · exact v1 v (List.mem_append_left _ (List.mem_reverse.mpr hv))
  · show (as.reverse ++ vr t i :: st).map (cv E) = _
    rw [List.map_append, List.map_reverse, List.map_cons]
    rfl
theorem aw_callIN {idx t i : Nat} {as : List AV} {host : String} (hd : Dc M pc (.invokespecial idx) 3 pc2) (hlk : Cond.methodLinkNest M.1.cls idx M2.1 host ∈ Gn) (hf : MF M2 n) (hv : MI M2) (hn : as.length = n) (hw : (st.map wd).sum ≤ 8)
    (hm : AMet l E d M2 (vr t i :: as) I L R Z (fun r I1 L1 R1 Z1 => AWq l E (d + 1) M Z0 pc2 ls (rst r st) I1 L1 R1 Z1 Q)) : AWq l E (d + 1) M Z0 pc ls (as.reverse ++ vr t i :: st) I L R Z Q := by
  obtain ⟨hd, rfl⟩ := hd
  refine AWq.call hm (fun v h1 h2 => h1 v (List.mem_append_right _ (List.mem_cons_of_mem _ h2))) (fun p e Rm s m args below meth c F als H locs cells slots mc ms Qc hsz v1 hW hS hr hM => ?_)
  have hts := F.2.2.2.2.1
  have cb : va_CN Rm s args M.1.cls idx M2.1 host M2.2.1 M2.2.2.1 none (wsM M2) (rmM d mc ms) mc ms n := by
    have := va_cnB (bytes := M2.2.1) (maxL := M2.2.2.1) (ret := M2.2.2.2) (ws' := G) (own := M.1.cls) (index := idx) (y := M2.1) (ws := wsM M2) (rm := rmM d mc ms) (mc := mc) (ms := ms) n hts (goodM hf) rfl rfl rfl (F.2.2.2.2.2.1.2.1 _ hlk) (hts _ hf.2.1) hf.2.2.1 (roomM hf.2.2.2.1 F.2.2.2.2.2.2.2.2.2.1 F.2.2.2.2.2.2.2.2.2.2.1)
    rw [hv.2.2] at this
    exact this
  refine va_runIN (As := as.map (cv E)) (b := ad E t i) ⟨F.1, F.2.1, F.2.2.1, F.2.2.2.1, hts⟩ hM ⟨cb, hv.2.1, hts _ hv.1⟩ ⟨PcM.blind, fun U hU hw => ⟨rfl, F.2.2.2.2.2.1.at F.2.2.2.2.2.2.2.2.2.2.2 hS hU hw, by rw [hU]; exact hW, ?_⟩⟩ rfl (by rw [List.length_map]; exact hn) hsz ?_ (lv_room (by rw [wd_sum]; exact hw)) hd hr
  · intro v hv
    rcases List.mem_cons.mp hv with e | hv
    · rw [e]; exact v1 _ (List.mem_append_right _ List.mem_cons_self)
    · exact v1 v (List.mem_append_left _ (List.mem_reverse.mpr hv))
  · show (as.reverse ++ vr t i :: st).map (cv E) = _
    rw [List.map_append, List.map_reverse, List.map_cons]
    rfl
end CALLS
end
section
/-! ===== new cells ===== -/
theorem cellE_len {E : En} {I : It} {L : Lt} {R : Rt} {Z Z2 : Zt} {t i : Nat} (h : alen Z2 t i = alen Z t i) : cellE E I L R Z2 t i = cellE E I L R Z t i := by
  unfold cellE
  rw [h]
theorem Wo.grow {E : En} {I : It} {L : Lt} {R : Rt} {Z Z2 : Zt} {H H2 : Heap} {t i : Nat} (h : Wo E I L R Z H) (hw : who Z.2.1 = (t, i)) (hz2 : Z2.2.1 = Z.2.1 + 1) (hz : H2.size = H.size + 1) (ho : ∀ q, q < H.size → H2[q]? = H[q]?)
    (hc : va_at E.1 classes (E.2.2.1 + Z.2.1, cellE E I L R Z2 t i) H2) (ha : ∀ t2 i2, ¬ (t2 = t ∧ i2 = i) → alen Z2 t2 i2 = alen Z t2 i2) (hr : ∀ k, R t i k = none) : Wo E I L R Z2 H2 := by
  have hn : adr t i = Z.2.1 := by have := (adr_who Z.2.1).1; rwa [hw] at this
  refine ⟨by rw [hz, hz2, h.1]; omega, fun k hk => ?_, fun t2 i2 k q hq hv => ?_⟩
  · by_cases e : k = Z.2.1
    · subst e
      rw [hw]
      exact hc
    · have hk2 : k < Z.2.1 := by omega
      have hne : ¬ ((who k).1 = t ∧ (who k).2 = i) := fun q => e (by rw [← (adr_who k).1, q.1, q.2]; exact hn)
      rw [cellE_len (ha _ _ hne)]
      refine (h.2.1 k hk2).kept (ho _ ?_)
      show E.2.2.1 + k < H.size
      rw [h.1]
      omega
  · by_cases e : t2 = t ∧ i2 = i
    · obtain ⟨rfl, rfl⟩ := e
      rw [hr k] at hq
      cases hq
    · have hv2 : VD Z t2 i2 := by
        refine ⟨hv.1, ?_, hv.2.2⟩
        have h1 := hv.2.1
        by_cases e2 : adr t2 i2 = Z.2.1
        · exfalso
          have h3 := hv.2.2
          rw [e2, hw] at h3
          exact e ⟨(Prod.mk.inj h3).1.symm, (Prod.mk.inj h3).2.symm⟩
        · omega
      exact (h.2.2 t2 i2 k q hq hv2).mono (by omega)
theorem vd_new {Z Z2 : Zt} {t i : Nat} (hw : who Z.2.1 = (t, i)) (hz2 : Z2.2.1 = Z.2.1 + 1) : VD Z2 t i := by
  have hn := (adr_who Z.2.1)
  rw [hw] at hn
  have h5 : adr t i = Z.2.1 := hn.1
  exact ⟨hn.2, by omega, by rw [h5]; exact hw⟩
theorem ad_new {E : En} {Z : Zt} {t i : Nat} (hw : who Z.2.1 = (t, i)) : ad E t i = E.2.2.1 + Z.2.1 := by
  have hn := (adr_who Z.2.1)
  rw [hw] at hn
  unfold ad
  rw [if_pos hn.2, hn.1]
theorem va_S.push {A : Nat → Prop} {H0 H H1 : Heap} {locs : List Loc} (h : va_S A H0 H locs) (z : H.size ≤ H1.size) (oq : ∀ q : Nat, q < H.size → H1[q]? = H[q]?) : va_S A H0 H1 locs :=
  ⟨Nat.le_trans h.1 z, fun q h1 h2 => (oq q (Nat.lt_of_lt_of_le h1 h.1)).trans (h.2.1 q h1 h2), h.2.2⟩
section MAKE
variable {l : Launch} {E : En} {d : Nat} {M M2 : Mt} {Z0 : Zt} {pc pc2 tgt n : Nat} {ls : List (Option AV)} {st : List AV} {I : It} {L : Lt} {R : Rt} {Z : Zt} {Q : Qt}
theorem aw_new {idx : Nat} (t i : Nat) (hd : Dc M pc (.new idx) 3 pc2) (hcl : Cond.classLink M.1.cls idx (Rn t) ∈ G) (hin : Cond.instantiable (Rn t) (nf t) ∈ G) (hini : Cond.initialized (Rn t) ∈ G) (hw : who Z.2.1 = (t, i)) (hI : ∀ f, I t i f = 0) (hR : ∀ f, R t i f = none) (ht : t < 10)
    (k : AWq l E d M Z0 pc2 ls (vr t i :: st) I L R (Z.1, Z.2.1 + 1, Z.2.2 + nf t) Q) : AWq l E d M Z0 pc ls st I L R Z Q := by
  obtain ⟨hd, rfl⟩ := hd
  obtain ⟨r, I2, L2, R2, Z2, hq, hz, k⟩ := k
  have hz1 : Z.2.1 + 1 ≤ Z2.2.1 := hz.1
  have hz3 : Z.2.2 + nf t ≤ Z2.2.2 := hz.2
  refine ⟨r, I2, L2, R2, Z2, hq, ⟨by omega, by omega⟩, fun p e Rm s m args below meth c F h1 h2 h3 h4 als H locs hl v1 v2 hW hS => ?_⟩
  have hts := F.2.2.2.2.1
  have hK := F.2.2.2.2.2.1.1
  refine W.newc F.1 F.2.1 F.2.2.2.1 (hts _ hcl) (hts _ hin) (hts _ hini) rfl hd (by omega) (by omega) (fun cC kC g1 g2 g3 g4 => ?_)
  have e1 : Z.2.1 - Z0.2.1 + 1 = Z.2.1 + 1 - Z0.2.1 := by omega
  have e2 : Z.2.2 - Z0.2.2 + nf t = Z.2.2 + nf t - Z0.2.2 := by omega
  rw [e1, e2]
  have hKn := hK.1 t _ (cl_at t ht)
  have hcc : cC = E.1.1 t := Option.some.inj (g1.symm.trans hKn.2.1)
  subst hcc
  have hcell : (H.push { cls := E.1.1 t, slots := kC.instanceTypes.map defaultValue, vm := .none })[H.size]? = some (blank (E.1.1 t) kC) := by simp [blank]
  have hob := u_born (Ty t) hts (cl_in t ht) hKn g2 hcell (cl_ty t ht)
  have hW2 : Wo E I L R (Z.1, Z.2.1 + 1, Z.2.2 + nf t) (H.push { cls := E.1.1 t, slots := kC.instanceTypes.map defaultValue, vm := .none }) := by
    refine hW.grow (t := t) (i := i) hw rfl (by simp) (fun q hq => by rw [Array.getElem?_push, if_neg (Nat.ne_of_lt hq)]) ?_ (fun _ _ _ => rfl) hR
    rw [cell_o E I L R _ ht, ← hW.1]
    refine ⟨_, cl_at t ht, hob.to (fun j hj => ?_)⟩
    show defaultValue (Ty t j) = vp_V _ j
    rw [fV_V E I R t i hj, cl_df t ht j hj]
    unfold fV
    rw [hI, hR]
    rfl
  have e3 : Value.ref H.size = cv E (vr t i) := by
    show _ = Value.ref (ad E t i)
    rw [ad_new hw, hW.1]
  have h := k p e Rm s m args below meth c F h1 h2 (Nat.le_succ_of_le h3) (Nat.le_trans h4 (Nat.le_add_right _ _)) als _ locs hl (vc1 (Or.inr (vd_new hw rfl)) (fun v hv => (v1 v hv).mono (Nat.le_succ _))) (fun v hv => (v2 v hv).mono (Nat.le_succ _)) hW2 (hS.push (by simp) (fun q hq => by rw [Array.getElem?_push, if_neg (Nat.ne_of_lt hq)]))
  rw [List.map_cons, ← e3] at h
  exact h
/-- a new row of numbers -/
theorem aw_newa {x : Int32} {at0 : ArrayType} {len2 : Nat → Nat} (t i N : Nat) (hd : Dc M pc (.newarray at0) 2 pc2) (hac : Cond.arrayClass (newarray.typeOf at0) ∈ G) (hx : x = nI N) (hN : N ≤ 10000) (hw : who Z.2.1 = (t, i)) (hI : ∀ f, I t i f = 0) (hL : ∀ f, L t i f = 0) (hR : ∀ f, R t i f = none)
    (hlen : alen (len2, Z.2.1 + 1, Z.2.2 + N) t i = N) (ho : ∀ t2 i2, ¬ (t2 = t ∧ i2 = i) → alen (len2, Z.2.1 + 1, Z.2.2 + N) t2 i2 = alen Z t2 i2)
    (k : AWq l E d M Z0 pc2 ls (vr t i :: st) I L R (len2, Z.2.1 + 1, Z.2.2 + N) Q) (ht : 10 ≤ t ∧ t < 50 ∧ tc t < 3 ∧ tcT (tc t) = newarray.typeOf at0 := by exact ⟨by decide, by decide, by decide, rfl⟩) (hby : componentBytes (newarray.typeOf at0) ≤ 8 := by decide) : AWq l E d M Z0 pc ls (vi x :: st) I L R Z Q := by
  obtain ⟨hd, rfl⟩ := hd
  subst hx
  obtain ⟨r, I2, L2, R2, Z2, hq, hz, k⟩ := k
  have hz1 : Z.2.1 + 1 ≤ Z2.2.1 := hz.1
  have hz3 : Z.2.2 + N ≤ Z2.2.2 := hz.2
  refine ⟨r, I2, L2, R2, Z2, hq, ⟨by omega, by omega⟩, fun p e Rm s m args below meth c F h1 h2 h3 h4 als H locs hl v1 v2 hW hS => ?_⟩
  have hts := F.2.2.2.2.1
  have hK := F.2.2.2.2.2.1.1
  have hNb : N < 2147483648 := by omega
  refine va_newaK F.1 F.2.1 (hts _ hac) rfl hd rfl (nI_pos hNb) (nI_clamp hNb) (by
    have : N * componentBytes (newarray.typeOf at0) ≤ 10000 * 8 := Nat.mul_le_mul hN hby
    omega) (by omega) (by omega) rfl (fun H1 cA q1 q2 q3 q4 q5 => ?_)
  have e1 : Z.2.1 - Z0.2.1 + 1 = Z.2.1 + 1 - Z0.2.1 := by omega
  have e2 : Z.2.2 - Z0.2.2 + N = Z.2.2 + N - Z0.2.2 := by omega
  rw [e1, e2]
  obtain ⟨t1, t2, t3, t4⟩ := ht
  have hra := (hK.2 (tc t) _ (tys_at E (by omega))).2
  have hcA : cA = E.2.1 (tc t) := by
    have h5 : s.vm.findClass ("[" ++ (tcT (tc t)).toString) = some (E.2.1 (tc t)) := by
      have t5 : tc t = 0 ∨ tc t = 1 ∨ tc t = 2 := by omega
      rcases t5 with e | e | e <;> rw [e] at hra ⊢ <;> exact hra
    rw [t4] at h5
    exact Option.some.inj (q5.symm.trans h5)
  subst hcA
  have hW2 : Wo E I L R (len2, Z.2.1 + 1, Z.2.2 + N) H1 := by
    refine hW.grow (t := t) (i := i) hw rfl q2 q3 ?_ ho hR
    rw [← hW.1]
    by_cases e : tc t = 1
    · rw [cell_l E I L R _ t1 e, hlen]
      show H1[_]? = some (vp_cell _ _)
      rw [q1, vp_cell_l, ← t4, e]
      congr 2
      funext j
      rw [hL]
      rfl
    · rw [cell_i E I L R _ t1 t3 e, hlen]
      show H1[_]? = some (vp_cell _ _)
      rw [q1, vp_cell_i, ← t4]
      congr 2
      funext j
      rw [hI]
      have t5 : tc t = 0 ∨ tc t = 2 := by omega
      rcases t5 with e | e <;> rw [e] <;> rfl
  have e3 : Value.ref H.size = cv E (vr t i) := by
    show _ = Value.ref (ad E t i)
    rw [ad_new hw, hW.1]
  have h := k p e Rm s m args below meth c F h1 h2 (Nat.le_succ_of_le h3) (Nat.le_trans h4 (Nat.le_add_right _ _)) als _ locs hl (vc1 (Or.inr (vd_new hw rfl)) (fun v hv => (vt1 v1 v hv).mono (Nat.le_succ _))) (fun v hv => (v2 v hv).mono (Nat.le_succ _)) hW2 (hS.push (by rw [q2]; omega) q3)
  rw [List.map_cons, ← e3] at h
  exact h
/-- a new row of objects -/
theorem aw_anew {x : Int32} {idx : Nat} (t i N : Nat) {C : String} (hd : Dc M pc (.anewarray idx) 3 pc2) (hcl : Cond.classLink M.1.cls idx C ∈ G) (hao : ∀ (s : State), StF E s s.heap → va_AO C s) (hx : x = nI N) (hN : N ≤ 10000) (hw : who Z.2.1 = (t, i)) (hR : ∀ f, R t i f = none) (hlen : alen Z t i = N)
    (k : AWq l E d M Z0 pc2 ls (vr t i :: st) I L R (Z.1, Z.2.1 + 1, Z.2.2 + N) Q) (ht : 10 ≤ t ∧ t < 50 ∧ 3 ≤ tc t ∧ tc t < 8 ∧ tcT (tc t) = .object C := by exact ⟨by decide, by decide, by decide, by decide, rfl⟩) : AWq l E d M Z0 pc ls (vi x :: st) I L R Z Q := by
  obtain ⟨hd, rfl⟩ := hd
  subst hx
  obtain ⟨r, I2, L2, R2, Z2, hq, hz, k⟩ := k
  have hz1 : Z.2.1 + 1 ≤ Z2.2.1 := hz.1
  have hz3 : Z.2.2 + N ≤ Z2.2.2 := hz.2
  refine ⟨r, I2, L2, R2, Z2, hq, ⟨by omega, by omega⟩, fun p e Rm s m args below meth c F h1 h2 h3 h4 als H locs hl v1 v2 hW hS => ?_⟩
  have hts := F.2.2.2.2.1
  have hK := F.2.2.2.2.2.1.1
  have hNb : N < 2147483648 := by omega
  have hnn : (nI N).toNatClampNeg = N := nI_clamp hNb
  refine W.anew F.1 F.2.1 F.2.2.2.1 (hts _ hcl) (hao s F.2.2.2.2.2.1).use rfl hd rfl (nI_pos hNb) (by rw [hnn]; omega) (by omega) (by rw [hnn]; omega) (fun cA kA comp q1 q2 q3 q4 => ?_)
  rw [hnn]
  have e1 : Z.2.1 - Z0.2.1 + 1 = Z.2.1 + 1 - Z0.2.1 := by omega
  have e2 : Z.2.2 - Z0.2.2 + N = Z.2.2 + N - Z0.2.2 := by omega
  rw [e1, e2]
  obtain ⟨t1, t2, t3, t4, t5⟩ := ht
  have hra := (hK.2 (tc t) _ (tys_at E t4)).2
  rw [t5] at hra
  obtain ⟨kA', comp', r1, r2, r3, r4⟩ := hra
  have hcA : cA = E.2.1 (tc t) := Option.some.inj (q1.symm.trans r4)
  subst hcA
  have hH : ∀ q, q < H.size → (H.push { cls := E.2.1 (tc t), slots := Array.replicate N .null, vm := .none })[q]? = H[q]? := fun q hq => by rw [Array.getElem?_push, if_neg (Nat.ne_of_lt hq)]
  have hW2 : Wo E I L R (Z.1, Z.2.1 + 1, Z.2.2 + N) (H.push { cls := E.2.1 (tc t), slots := Array.replicate N .null, vm := .none }) := by
    refine hW.grow (t := t) (i := i) hw rfl (by simp) hH ?_ (fun _ _ _ => rfl) hR
    rw [← hW.1, cell_r E I L R _ t1 t3]
    have hlen2 : alen (Z.1, Z.2.1 + 1, Z.2.2 + N) t i = N := hlen
    rw [hlen2]
    show (H.push _)[H.size]? = some (vp_cell _ _)
    rw [vp_cell_q, Array.getElem?_push, if_pos rfl, arrV_new]
    congr 2
    funext j
    rw [hR]
    rfl
  have e3 : Value.ref H.size = cv E (vr t i) := by
    show _ = Value.ref (ad E t i)
    rw [ad_new hw, hW.1]
  have h := k p e Rm s m args below meth c F h1 h2 (Nat.le_succ_of_le h3) (Nat.le_trans h4 (Nat.le_add_right _ _)) als _ locs hl (vc1 (Or.inr (vd_new hw rfl)) (fun v hv => (vt1 v1 v hv).mono (Nat.le_succ _))) (fun v hv => (v2 v hv).mono (Nat.le_succ _)) hW2 (hS.push (by simp) hH)
  rw [List.map_cons, ← e3] at h
  exact h
theorem aw_objInit {idx t i : Nat} (hd : Dc M pc (.invokespecial idx) 3 pc2) (hlk : Cond.methodLink M.1.cls idx Lib.objectInit ∈ G) (hi : Cond.instanceMethod Lib.objectInit ∈ G) (hc : Cond.code Lib.objectInit ⟨#[0xb1]⟩ 1 none ∈ G) (hw : (st.map wd).sum ≤ 8) (k : AWq l E (d + 1) M Z0 pc2 ls st I L R Z Q) : AWq l E (d + 1) M Z0 pc ls (vr t i :: st) I L R Z Q := by
  obtain ⟨hd, rfl⟩ := hd
  refine k.lift (fun v1 v2 => ⟨vt1 v1, v2⟩) (fun p e Rm s m args below meth c cells slots Qs F als H locs hl v1 hW hS kk => ?_)
  have hts := F.2.2.2.2.1
  have f1 := F.2.2.2.2.2.2.2.2.2.1
  have f2 := F.2.2.2.2.2.2.2.2.2.2.1
  refine W.objInit F.1 F.2.1 F.2.2.2.1 (hts _ hlk) (hts _ hi) (hts _ hc) rfl (by show als.size = _; rw [F.2.2.1]; exact hl.1.1) rfl hd (by omega) ?_ (kk als hl)
  have := lv_room (m := m) (pc := pc) (ls := als) (rest := []) (st := st.map (cv E)) (by rw [wd_sum]; exact hw)
  have e0 : (F0 m pc als ((vr t i :: st).map (cv E))).monitorRoom = (F0 m pc als []).monitorRoom := rfl
  rw [e0]
  omega
end MAKE
end
section
theorem mo_outer (c : ClassId) (N h0 : Nat) : ∀ i : Nat, Jvm.Free.Multi.outerC c N h0 i = arrV c N (fun j => va_rf (if j < i then some (h0 + 1 + j) else none))
  | 0 => by
    show ({ cls := c, slots := Array.replicate N .null, vm := .none } : Cell) = _
    rw [arrV_new]
    refine congrArg (arrV c N) (funext fun j => ?_)
    simp [va_rf]
  | i + 1 => by
    show (Jvm.Free.Multi.outerC c N h0 i).setSlot i (.ref (h0 + 1 + i)) = _
    rw [mo_outer c N h0 i, arrV_store]
    refine congrArg (arrV c N) (funext fun j => ?_)
    by_cases e : j = i
    · subst e
      simp [updV, va_rf]
    · by_cases h : j < i
      · simp [updV, e, h, Nat.lt_succ_of_lt h]
      · simp [updV, e, h, show ¬ j < i + 1 by omega]
section MAKE2
variable {l : Launch} {E : En} {d : Nat} {M M2 : Mt} {Z0 : Zt} {pc pc2 tgt n : Nat} {ls : List (Option AV)} {st : List AV} {I : It} {L : Lt} {R : Rt} {Z : Zt} {Q : Qt}
/-- the outer row and its 24 rows -/
def mR (R : Rt) (a : Nat) : Rt := fun t i k => if t = 16 ∧ i = a then (if k < 24 then some (17, 24 * a + k) else none) else R t i k
theorem aw_mna {idx : Nat} (a : Nat) (hd : Dc M pc (.multianewarray idx 2) 4 pc2) (hcl : Cond.classLink M.1.cls idx "[[J" ∈ G) (hac : Cond.arrayClass .long ∈ G) (hw : who Z.2.1 = (16, a)) (hw2 : ∀ j, j < 24 → who (Z.2.1 + 1 + j) = (17, 24 * a + j)) (hL : ∀ j, j < 24 → ∀ k, L 17 (24 * a + j) k = 0) (hR : ∀ j k, R 17 j k = none)
    (k : AWq l E d M Z0 pc2 ls (vr 16 a :: st) I L (mR R a) (Z.1, Z.2.1 + 25, Z.2.2 + 624) Q) : AWq l E d M Z0 pc ls (vi (nI 25) :: vi (nI 24) :: st) I L R Z Q := by
  obtain ⟨hd, rfl⟩ := hd
  obtain ⟨r, I2, L2, R2, Z2, hq, hz, k⟩ := k
  have hz1 : Z.2.1 + 25 ≤ Z2.2.1 := hz.1
  have hz3 : Z.2.2 + 624 ≤ Z2.2.2 := hz.2
  refine ⟨r, I2, L2, R2, Z2, hq, ⟨by omega, by omega⟩, fun p e Rm s m args below meth c F h1 h2' h3 h4 als H locs hl v1 v2 hW hS => ?_⟩
  have h2 := hW
  have hts := F.2.2.2.2.1
  have hK := F.2.2.2.2.2.1.1
  have n24 : (nI 24).toNatClampNeg = 24 := nI_clamp (by decide)
  have n25 : (nI 25).toNatClampNeg = 25 := nI_clamp (by decide)
  intro T hT Xs
  obtain ⟨vm₁, cA, comp, -, fA, fC, hO, -, X', step⟩ := Xs.multianewarray2F F.1 F.2.2.2.1 (hts _ hcl) F.2.2.2.2.2.1.2.2.1.2.2.2.2.1.use (hts _ hac) (g := F0 m pc als ((vi (nI 25) :: vi (nI 24) :: st).map (cv E))) rfl (by rw [F.2.1]; exact hd) rfl (nI_pos (by decide)) (nI_pos (by decide)) (by rw [n24]; decide) (by rw [n25]; decide) (by rw [n25]; decide) rfl rfl (by rw [n24]; omega) (by rw [n24, n25]; omega)
  rw [n24, n25] at X' step
  have hra := (hK.2 7 _ (tys_at E (by decide))).2
  have hcA : cA = E.2.1 7 := Option.some.inj (fA.symm.trans hra)
  have hrb := (hK.2 1 _ (tys_at E (by decide))).2
  have hcm : comp = E.2.1 1 := Option.some.inj (fC.symm.trans hrb)
  subst hcA
  subst hcm
  generalize hF : Jvm.Free.Multi.fill (T.setVm vm₁) (E.2.1 7) (E.2.1 1) 24 25 (defaultValue .long) 24 = F1 at X' step
  have hTh : (T.setVm vm₁).heap = H := hT
  obtain ⟨f1, f2, -, -⟩ := Jvm.Free.Multi.fill_facts (T.setVm vm₁) (E.2.1 7) (E.2.1 1) 24 25 (defaultValue .long) 24
  rw [hF, hTh] at f1 f2
  have hold : ∀ x : Nat, x < H.size → F1.heap[x]? = H[x]? := fun x hx => by
    have := Jvm.Free.Multi.fill_old (T.setVm vm₁) (E.2.1 7) (E.2.1 1) 24 25 (defaultValue .long) (a := x) (by rw [hTh]; exact hx) 24
    rw [hF, hTh] at this
    exact this
  have hrow : ∀ j : Nat, j < 24 → F1.heap[H.size + 1 + j]? = some (arrV (E.2.1 1) 25 (fun _ => .long 0)) := fun j hj => by
    have := Jvm.Free.Multi.fill_inner (T.setVm vm₁) (E.2.1 7) (E.2.1 1) 24 25 (defaultValue .long) 24 j hj
    rw [hF, hTh] at this
    rw [this]
    show some ({ cls := _, slots := Array.replicate 25 _, vm := .none } : Cell) = _
    rw [arrV_new]
    rfl
  rw [mo_outer] at f2
  have hsz : F1.heap.size = H.size + 25 := by rw [f1]
  have ea : ∀ j, j < 24 → ad E 17 (24 * a + j) = H.size + 1 + j := fun j hj => by
    have h5 := (adr_who (Z.2.1 + 1 + j)).1
    rw [hw2 j hj] at h5
    show (if 17 < 50 then E.2.2.1 + adr 17 (24 * a + j) else _) = _
    rw [if_pos (by decide), hW.1]
    have h6 : adr 17 (24 * a + j) = Z.2.1 + 1 + j := h5
    omega
  have hmR : ∀ t i, ¬ (t = 16 ∧ i = a) → mR R a t i = R t i := fun t i hne => by
    funext j
    unfold mR
    rw [if_neg hne]
  have hmRa : ∀ j, mR R a 16 a j = if j < 24 then some (17, 24 * a + j) else none := fun j => by
    unfold mR
    rw [if_pos ⟨rfl, rfl⟩]
  have hvd17 : ∀ j, j < 24 → VD (Z.1, Z.2.1 + 25, Z.2.2 + 624) 17 (24 * a + j) := fun j hj => by
    have h5 := (adr_who (Z.2.1 + 1 + j)).1
    rw [hw2 j hj] at h5
    have h6 : adr 17 (24 * a + j) = Z.2.1 + 1 + j := h5
    refine ⟨by decide, ?_, by rw [h6]; exact hw2 j hj⟩
    show adr 17 (24 * a + j) < Z.2.1 + 25
    omega
  have hW2 : Wo E I L (mR R a) (Z.1, Z.2.1 + 25, Z.2.2 + 624) F1.heap := by
    refine ⟨by rw [hsz, hW.1]; show _ = E.2.2.1 + (Z.2.1 + 25); omega, fun k9 hk9 => ?_, fun t i k9 q hq hv => ?_⟩
    · have hk9 : k9 < Z.2.1 + 25 := hk9
      by_cases e0 : k9 < Z.2.1
      · have hne : ¬ ((who k9).1 = 16 ∧ (who k9).2 = a) := fun q => by
          have h5 := (adr_who k9).1
          have h6 := (adr_who Z.2.1).1
          rw [q.1, q.2] at h5
          rw [hw] at h6
          have h6 : adr 16 a = Z.2.1 := h6
          omega
        have e4 : cellE E I L (mR R a) (Z.1, Z.2.1 + 25, Z.2.2 + 624) (who k9).1 (who k9).2 = cellE E I L R Z (who k9).1 (who k9).2 := by
          have e6 : cellE E I L (mR R a) (Z.1, Z.2.1 + 25, Z.2.2 + 624) (who k9).1 (who k9).2 = cellE E I L (mR R a) Z (who k9).1 (who k9).2 := cellE_len rfl
          rw [e6]
          have e5 : fV E I (mR R a) (who k9).1 (who k9).2 = fV E I R (who k9).1 (who k9).2 := by
            funext j
            unfold fV
            rw [hmR _ _ hne]
          unfold cellE
          rw [hmR _ _ hne, e5]
        rw [e4]
        exact (h2.2.1 k9 e0).kept (hold _ (by show E.2.2.1 + k9 < _; rw [hW.1]; omega))
      · by_cases e1 : k9 = Z.2.1
        · subst e1
          rw [hw]
          show va_at E.1 classes (_, cellE E I L (mR R a) _ 16 a) _
          rw [cell_r E I L _ _ (by decide) (by decide)]
          show F1.heap[_]? = some (vp_cell _ _)
          rw [vp_cell_q, ← hW.1, f2]
          congr 2
          funext j
          show _ = va_rf (cR E (mR R a 16 a j))
          rw [hmRa]
          by_cases e2 : j < 24
          · rw [if_pos e2, if_pos e2]
            show _ = va_rf (some (ad E 17 (24 * a + j)))
            rw [ea j e2]
          · rw [if_neg e2, if_neg e2]
            rfl
        · obtain ⟨j, rfl⟩ : ∃ j, k9 = Z.2.1 + 1 + j := ⟨k9 - Z.2.1 - 1, by omega⟩
          have hj : j < 24 := by omega
          rw [hw2 j hj]
          show va_at E.1 classes (_, cellE E I L (mR R a) _ 17 (24 * a + j)) _
          rw [cell_l E I L _ _ (by decide) rfl]
          show F1.heap[_]? = some (vp_cell _ _)
          rw [vp_cell_l, show E.2.2.1 + (Z.2.1 + 1 + j) = H.size + 1 + j by rw [hW.1]; omega, hrow j hj]
          congr 2
          funext q
          rw [hL j hj]
    · by_cases e0 : t = 16 ∧ i = a
      · obtain ⟨rfl, rfl⟩ := e0
        rw [hmRa] at hq
        by_cases e2 : k9 < 24
        · rw [if_pos e2] at hq
          cases hq
          exact Or.inr (hvd17 k9 e2)
        · rw [if_neg e2] at hq
          cases hq
      · rw [hmR _ _ e0] at hq
        by_cases e1 : adr t i < Z.2.1
        · exact (hW.2.2 t i k9 q hq ⟨hv.1, e1, hv.2.2⟩).mono (Nat.le_add_right _ _)
        · have e3 : adr t i < Z.2.1 + 25 := hv.2.1
          by_cases e2 : adr t i = Z.2.1
          · have := hv.2.2
            rw [e2, hw] at this
            exact absurd ⟨(Prod.mk.inj this).1.symm, (Prod.mk.inj this).2.symm⟩ e0
          · obtain ⟨j, e5⟩ : ∃ j, adr t i = Z.2.1 + 1 + j := ⟨adr t i - Z.2.1 - 1, by omega⟩
            have := hv.2.2
            rw [e5, hw2 j (by omega)] at this
            obtain ⟨rfl, rfl⟩ := Prod.mk.inj this
            rw [hR] at hq
            cases hq
  have e3 : Value.ref H.size = cv E (vr 16 a) := by
    show _ = Value.ref (ad E 16 a)
    rw [ad_new hw, hW.1]
  have hvd16 : VD (Z.1, Z.2.1 + 25, Z.2.2 + 624) 16 a := (vd_new (Z2 := (Z.1, Z.2.1 + 1, Z.2.2)) hw rfl).mono (by show Z.2.1 + 1 ≤ Z.2.1 + 25; omega)
  have hk := k p e Rm s m args below meth c F h1 h2' (Nat.le_trans h3 (Nat.le_add_right _ _)) (Nat.le_trans h4 (Nat.le_add_right _ _)) als F1.heap locs hl (vc1 (Or.inr hvd16) (fun v hv => (vt1 (vt1 v1) v hv).mono (Nat.le_add_right _ _))) (fun v hv => (v2 v hv).mono (Nat.le_add_right _ _)) hW2 (hS.push (by rw [hsz]; omega) hold)
  rw [List.map_cons, ← e3] at hk
  have e6 : Z.2.1 - Z0.2.1 + 1 + 24 = Z.2.1 + 25 - Z0.2.1 := by omega
  have e7 : Z.2.2 - Z0.2.2 + 24 + 24 * 25 = Z.2.2 + 624 - Z0.2.2 := by omega
  rw [e6, e7] at X'
  obtain ⟨t9, a1, b1⟩ := hk F1 rfl X'
  refine ⟨t9, step t9 ?_, b1⟩
  have e8 : T.heap.size = H.size := by rw [hT]
  rw [e8]
  exact a1
/-- a row of longs comes to a row of rows -/
theorem aw_aastL {i n i2 : Nat} {x : Int32} (hd : Dc M pc .aastore 1 pc2) (hx : x = nI n) (hn : n < 24) (k : AWq l E d M Z0 pc2 ls st I L (sR R 16 i n (some (17, i2))) Z Q) : AWq l E d M Z0 pc ls (vr 17 i2 :: vi x :: vr 16 i :: st) I L R Z Q := by
  obtain ⟨hd, rfl⟩ := hd
  subst hx
  obtain ⟨r, I2, L2, R2, Z2, hq, hz, k⟩ := k
  refine ⟨r, I2, L2, R2, Z2, hq, hz, fun p e Rm s m args below meth c F h1 h2 h3 h4 als H locs hl v1 v2 hW hS => ?_⟩
  have hb : n < 2147483648 := by omega
  have hvd : VD Z 16 i := vd_of (vh1 (vt1 (vt1 v1))) (by decide)
  have hat := hW.at hvd
  have hvd2 : VD Z 17 i2 := vd_of (vh1 v1) (by decide)
  have hat2 := hW.at hvd2
  have hK := F.2.2.2.2.2.1.1
  have htc : tc 16 = 7 := rfl
  have hal : alen Z 16 i = 24 := rfl
  rw [cell_r E I L R Z (by decide) (by decide), htc] at hat
  rw [cell_l E I L R Z (by decide) rfl] at hat2
  have hn2 : n < alen Z 16 i := hal ▸ hn
  generalize hNN : alen Z 16 i = NN at hat hn2
  generalize alen Z 17 i2 = N2 at hat2
  obtain ⟨comp, cA, kA, g1, g2, g3, g4, g5⟩ := arrayOverA_spec F.2.2.2.2.2.1.2.2.1.2.2.2.2.1
  have hra := (hK.2 7 _ (tys_at E (by decide))).2
  have hrb := (hK.2 1 _ (tys_at E (by decide))).2
  have hcA : cA = E.2.1 7 := Option.some.inj (g5.symm.trans hra)
  have hcm : comp = E.2.1 1 := Option.some.inj (g1.symm.trans hrb)
  subst hcA
  subst hcm
  obtain ⟨-, k9, hk9, cm9, hkk9⟩ := (hK.2 1 _ (tys_at E (by decide))).1 25 (fun _ => .null)
  have hin := in_nI (N := NN) hn2 hb
  refine W.aast F.1 F.2.1 hat (fun q h => by cases h) (fun h => by cases h) g3 g4 rfl hk9 ⟨fun q => hin (Or.inl q), by show _ < (arrV _ _ _).slots.size; rw [arrV_size, nI_clamp hb]; exact hn2⟩ hat2 (fun q h => by cases h) hk9 (va_asg _ _) rfl rfl hd fun H1 e1 e2 e3 => ?_
  refine k p e Rm s m args below meth c F h1 h2 h3 h4 als H1 _ hl (vt1 (vt1 (vt1 v1))) v2 (hW.put hvd e2 e3 ?_ (fun t2 i2 hne => ⟨rfl, rfl, sR_n hne⟩) (fun k q hq => ?_)) (hS.put e2 e3 (af_ad (t := 16) (by decide)))
  · rw [cell_r E I L _ Z (by decide) (by decide), sR_s, htc, hNN]
    show H1[_]? = some (vp_cell _ _)
    have e4 : (fun j => cR E (va_up (R 16 i) n (some (17, i2)) j)) = va_up (fun j => cR E (R 16 i j)) n (some (ad E 17 i2)) := by
      funext j
      by_cases e : j = n
      · subst e
        rw [up_s, up_s]
        rfl
      · rw [up_n e, up_n e]
    rw [e1, nI_clamp hb, e4, ← arr_updR, ← arrV_store]
    rfl
  · rw [sR_s] at hq
    by_cases e : k = n
    · subst e
      rw [up_s] at hq
      cases hq
      exact Or.inr hvd2
    · rw [up_n e] at hq
      exact hW.2.2 16 i k q hq hvd
/-- places of one row of ints come to another one, or the same -/
def cpI (I : It) (t i sp t2 i2 dp n : Nat) : It := fun t3 i3 k => if t3 = t2 ∧ i3 = i2 then va_cpy (I t i) (I t2 i2) sp dp n k else I t3 i3 k
theorem aw_acopy {idx t i t2 i2 sp dp n : Nat} {xs xd xn : Int32} (hd : Dc M pc (.invokestatic idx) 3 pc2) (hlk : Cond.methodLink M.1.cls idx arraycopyName ∈ G) (hnat : Cond.native arraycopyName ∈ G) (hst : Cond.static arraycopyName ∈ G) (hini : Cond.initialized "java/lang/System" ∈ G) (h1 : xs = nI sp) (h2 : xd = nI dp) (h3 : xn = nI n) (h4 : sp + n ≤ alen Z t i) (h5 : dp + n ≤ alen Z t2 i2) (hb : sp < 10000 ∧ dp < 10000 ∧ n < 10000) (hw : (st.map wd).sum ≤ 8)
    (k : AWq l E (d + 1) M Z0 pc2 ls st (cpI I t i sp t2 i2 dp n) L R Z Q) (ht : (10 ≤ t ∧ t < 50 ∧ tc t = 0) ∧ (10 ≤ t2 ∧ t2 < 50 ∧ tc t2 = 0) := by exact ⟨⟨by decide, by decide, rfl⟩, ⟨by decide, by decide, rfl⟩⟩) : AWq l E (d + 1) M Z0 pc ls (vi xn :: vi xd :: vr t2 i2 :: vi xs :: vr t i :: st) I L R Z Q := by
  obtain ⟨hd, rfl⟩ := hd
  subst h1
  subst h2
  subst h3
  obtain ⟨⟨ta, tb, tcc⟩, ua, ub, uc⟩ := ht
  obtain ⟨r, I2, L2, R2, Z2, hq, hz, k⟩ := k
  refine ⟨r, I2, L2, R2, Z2, hq, hz, fun p e Rm s m args below meth c F g1 g2 g3 g4 als H locs hl v1 v2 hW hS => ?_⟩
  have hts := F.2.2.2.2.1
  have hK := F.2.2.2.2.2.1.1
  have f1 := F.2.2.2.2.2.2.2.2.2.1
  have f2 := F.2.2.2.2.2.2.2.2.2.2.1
  have hvd : VD Z t i := vd_of (vh1 (vt1 (vt1 (vt1 (vt1 v1))))) tb
  have hvd2 : VD Z t2 i2 := vd_of (vh1 (vt1 (vt1 v1))) ub
  have hat := hW.at hvd
  have hat2 := hW.at hvd2
  rw [cell_i E I L R Z ta (by omega) (by omega), tcc] at hat
  rw [cell_i E I L R Z ua (by omega) (by omega), uc] at hat2
  have nn : ∀ z, z < 10000 → (nI z).toInt = (z : Int) := fun z hz => nI_toInt (by omega)
  have nc : ∀ z, z < 10000 → (nI z).toNatClampNeg = z := fun z hz => nI_clamp (by omega)
  intro T hT X
  obtain ⟨-, k0, hk0, cm0, hkk0⟩ := (hK.2 0 _ (tys_at E (by decide))).1 (alen Z t i) (fun j => .int (I t i j))
  obtain ⟨vm', X', step⟩ := X.arraycopy F.1 F.2.2.2.1 (hts _ hlk) (hts _ hnat) (hts _ hst) (hts _ hini) (src := ad E t i) (dst := ad E t2 i2) (cs := vp_cell (E.2.1 0) (alen Z t i, .inl (I t i))) (cd := vp_cell (E.2.1 0) (alen Z t2 i2, .inl (I t2 i2))) (srcPos := nI sp) (destPos := nI dp) (n := nI n) (by rw [hT]; exact hat) (by rw [hT]; exact hat2)
    (fun _ h => by cases h) (fun _ h => by cases h) (fun h => by cases h) (fun h => by cases h) hk0 hk0 hkk0 hkk0 (by rfl) (nI_pos (by omega)) (nI_pos (by omega)) (nI_pos (by omega))
    (by rw [nn sp hb.1, nn n hb.2.2]; show ¬ _ > ((arrV _ _ (fun j => .int (I t i j))).slots.size : Int); rw [arrV_size]; omega)
    (by rw [nn dp hb.2.1, nn n hb.2.2]; show ¬ _ > ((arrV _ _ (fun j => .int (I t2 i2 j))).slots.size : Int); rw [arrV_size]; omega)
    (fun vm₁ _ j hj => by
      rw [nc n hb.2.2] at hj
      have e : (vp_cell (E.2.1 0) (alen Z t i, .inl (I t i))).slots.getD ((nI sp).toNatClampNeg + j) .null = .int (I t i (sp + j)) := by
        show (arrV _ _ (fun j => .int (I t i j))).slots.getD _ _ = _
        rw [Array.getD_eq_getD_getElem?, nc sp hb.1, arrV_read _ _ (by omega)]
        rfl
      refine ⟨?_, ?_⟩
      · rw [e]
        rfl
      · rw [e]
        exact trivial)
    (g := F0 m pc als ((vi (nI n) :: vi (nI dp) :: vr t2 i2 :: vi (nI sp) :: vr t i :: st).map (cv E))) rfl (by show als.size = _; rw [F.2.2.1]; exact hl.1.1) (rest := st.map (cv E)) rfl (by rw [F.2.1]; exact hd) (by omega) (by
      show 2 * 0 + ((st.map (cv E)).map fun v => v.category).sum + _ ≤ _
      rw [wd_sum]
      have e9 : nativeFrameWords "java/lang/System" "arraycopy" 5 + 11 ≤ 30 := by decide
      omega)
  have e1 : copied (vp_cell (E.2.1 0) (alen Z t i, .inl (I t i))) (vp_cell (E.2.1 0) (alen Z t2 i2, .inl (I t2 i2))) (nI sp) (nI dp) (nI n) = vp_cell (E.2.1 0) (alen Z t2 i2, .inl (va_cpy (I t i) (I t2 i2) sp dp n)) := by
    have := va_copied (fun z => .int z) (E.2.1 0) (E.2.1 0) (n1 := alen Z t2 i2) (sp := (nI sp).toNatClampNeg) (dp := (nI dp).toNatClampNeg) (n := (nI n).toNatClampNeg) (n0 := alen Z t i) (I t i) (I t2 i2) (by rw [nc sp hb.1, nc n hb.2.2]; exact h4)
    rw [nc sp hb.1, nc dp hb.2.1, nc n hb.2.2] at this
    rw [vp_cell_i, vp_cell_i, vp_cell_i, ← this]
    unfold copied
    rw [nc sp hb.1, nc dp hb.2.1, nc n hb.2.2]
  rw [e1] at X' step
  have hl2 : ad E t2 i2 < H.size := (Array.getElem?_eq_some_iff.mp hat2).1
  generalize hC : vp_cell (E.2.1 0) (alen Z t2 i2, .inl (va_cpy (I t i) (I t2 i2) sp dp n)) = C at X' step
  have hheap : ((T.setVm vm').setCell (ad E t2 i2) C).heap = H.setIfInBounds (ad E t2 i2) C := by rw [← hT]; rfl
  have e2 : (H.setIfInBounds (ad E t2 i2) C).size = H.size := by simp
  have e3 : ∀ q : Nat, q ≠ ad E t2 i2 → (H.setIfInBounds (ad E t2 i2) C)[q]? = H[q]? := fun q hq => by simp [Array.getElem?_setIfInBounds, Ne.symm hq]
  have e4 : (H.setIfInBounds (ad E t2 i2) C)[ad E t2 i2]? = some C := by simp [Array.getElem?_setIfInBounds, hl2]
  have hself : cpI I t i sp t2 i2 dp n t2 i2 = va_cpy (I t i) (I t2 i2) sp dp n := by
    funext j
    unfold cpI
    rw [if_pos ⟨rfl, rfl⟩]
  have hW2 : Wo E (cpI I t i sp t2 i2 dp n) L R Z (H.setIfInBounds (ad E t2 i2) C) := by
    refine hW.put hvd2 e2 e3 ?_ (fun t3 i3 hne => ⟨by funext j; unfold cpI; rw [if_neg hne], rfl, rfl⟩) (fun k q hq => hW.2.2 t2 i2 k q hq hvd2)
    rw [cell_i E _ L R Z ua (by omega) (by omega), uc, hself]
    show (H.setIfInBounds (ad E t2 i2) C)[_]? = some (vp_cell _ _)
    rw [e4, hC]
  obtain ⟨t9, a1, b1⟩ := k p e Rm s m args below meth c F g1 g2 g3 g4 als _ _ hl (vt1 (vt1 (vt1 (vt1 (vt1 v1))))) v2 hW2 ⟨by rw [e2]; exact hS.1, fun q x1 x2 => by
      rw [e3 q (fun e => x2 (by rw [e]; exact af_ad ub))]
      exact hS.2.1 q x1 x2, fun q hq => by
      rcases List.mem_append.mp hq with h | h
      · exact hS.2.2 q h
      · obtain ⟨z, -, hz⟩ := List.mem_map.mp h
        rw [← hz]
        exact af_ad ub⟩ _ hheap X'
  exact ⟨t9, step t9 a1, b1⟩
end MAKE2
end
section
section STAT
variable {l : Launch} {E : En} {d : Nat} {M M2 : Mt} {Z0 : Zt} {pc pc2 tgt n : Nat} {ls : List (Option AV)} {st : List AV} {I : It} {L : Lt} {R : Rt} {Z : Zt} {Q : Qt}
theorem ad_hi {E : En} {t i : Nat} (h : ¬ t < 50) : ad E t i = E.2.2.2.1 t i := if_neg h
theorem aw_gsAbv {idx : Nat} {host : String} (hd : Dc M pc (.getstatic idx) 3 pc2) (hlk : Cond.fieldLinkNest M.1.cls idx "PowerBonds" "ABOVE" "[I" host ∈ Gn) (k : AWq l E d M Z0 pc2 ls (vr 50 0 :: st) I L R Z Q) : AWq l E d M Z0 pc ls st I L R Z Q := by
  obtain ⟨hd, rfl⟩ := hd
  refine k.lift (fun v1 v2 => ⟨vc1 (Or.inl (Nat.le_refl 50)) v1, v2⟩) (fun p e Rm s m args below meth c cells slots Qs F als H locs hl v1 hW hS kk => ?_)
  have h := kk als hl
  rw [List.map_cons] at h
  exact va_getsN F.1 F.2.1 F.2.2.2.2.2.1.2.2.2.2.1.1 hS F.2.2.2.1 ((F.2.2.2.2.2.1.2.1 _ hlk).use rfl) (fun _ h => h) hd h
def abI (n : Nat) : Int32 := ([-1, 0, 0, 2, 0, 4] : List Int32).getD n 0
theorem aw_abv {x : Int32} {n : Nat} (hd : Dc M pc .iaload 1 pc2) (hx : x = nI n) (hn : n < 6) (k : AWq l E d M Z0 pc2 ls (vi (abI n) :: st) I L R Z Q) : AWq l E d M Z0 pc ls (vi x :: vr 50 0 :: st) I L R Z Q := by
  obtain ⟨hd, rfl⟩ := hd
  subst hx
  refine k.lift (fun v1 v2 => ⟨vc1 trivial (vt1 (vt1 v1)), v2⟩) (fun p e Rm s m args below meth c cells slots Qs F als H locs hl v1 hW hS kk => ?_)
  exact va_ti F.1 F.2.1 F.2.2.2.2.2.1.2.2.2.2.1.2 hS (in_nI hn (by omega)) (v := .int (abI n)) (by rw [nI_clamp (by omega)]; rfl) hd (kk als hl)
theorem aw_ldcG (hd : Dc M pc (.ldc 70) 2 pc2) (hc : M.1.cls = "PowerBonds$Tape") (k : AWq l E d M Z0 pc2 ls (vr 51 0 :: st) I L R Z Q) : AWq l E d M Z0 pc ls st I L R Z Q := by
  obtain ⟨hd, rfl⟩ := hd
  refine k.lift (fun v1 v2 => ⟨vc1 (Or.inl (by decide)) v1, v2⟩) (fun p e Rm s m args below meth c cells slots Qs F als H locs hl v1 hW hS kk => ?_)
  exact va_ldcS F.1 F.2.1 F.2.2.2.1 (by rw [hc]; exact F.2.2.2.2.2.1.2.2.2.1.1) hd (kk als hl)
theorem aw_ldcR (hd : Dc M pc (.ldc 76) 2 pc2) (hc : M.1.cls = "PowerBonds$Tape") (k : AWq l E d M Z0 pc2 ls (vr 51 1 :: st) I L R Z Q) : AWq l E d M Z0 pc ls st I L R Z Q := by
  obtain ⟨hd, rfl⟩ := hd
  refine k.lift (fun v1 v2 => ⟨vc1 (Or.inl (by decide)) v1, v2⟩) (fun p e Rm s m args below meth c cells slots Qs F als H locs hl v1 hW hS kk => ?_)
  exact va_ldcS F.1 F.2.1 F.2.2.2.1 (by rw [hc]; exact F.2.2.2.2.2.1.2.2.2.1.2) hd (kk als hl)
theorem aw_strV {idx i : Nat} (hd : Dc M pc (.getfield idx) 3 pc2) (hlk : Cond.fieldLink M.1.cls idx "java/lang/String" "value" "[B" ∈ G) (hi : i < 2) (k : AWq l E d M Z0 pc2 ls (vr 52 i :: st) I L R Z Q) : AWq l E d M Z0 pc ls (vr 51 i :: st) I L R Z Q := by
  obtain ⟨hd, rfl⟩ := hd
  refine k.lift (fun v1 v2 => ⟨vc1 (Or.inl (Nat.le_of_ble_eq_true rfl)) (vt1 v1), v2⟩) (fun p e Rm s m args below meth c cells slots Qs F als H locs hl v1 hW hS kk => ?_)
  exact vk_getf F.1 F.2.1 (F.2.2.2.2.2.1.2.2.2.2.2.1.1 i hi).2.2.1 hS F.2.2.2.1 (F.2.2.2.2.1 _ hlk) (fun _ h => h) hd (kk als hl)
theorem aw_strC {idx i : Nat} (hd : Dc M pc (.getfield idx) 3 pc2) (hlk : Cond.fieldLink M.1.cls idx "java/lang/String" "coder" "B" ∈ G) (hi : i < 2) (k : AWq l E d M Z0 pc2 ls (vi 0 :: st) I L R Z Q) : AWq l E d M Z0 pc ls (vr 51 i :: st) I L R Z Q := by
  obtain ⟨hd, rfl⟩ := hd
  refine k.lift (fun v1 v2 => ⟨vc1 trivial (vt1 v1), v2⟩) (fun p e Rm s m args below meth c cells slots Qs F als H locs hl v1 hW hS kk => ?_)
  exact vk_getf F.1 F.2.1 (F.2.2.2.2.2.1.2.2.2.2.2.1.1 i hi).2.1 hS F.2.2.2.1 (F.2.2.2.2.1 _ hlk) (fun _ h => h) hd (kk als hl)
theorem aw_gsCS {idx : Nat} (hd : Dc M pc (.getstatic idx) 3 pc2) (hlk : Cond.fieldLink M.1.cls idx "java/lang/String" "COMPACT_STRINGS" "Z" ∈ G) (k : AWq l E d M Z0 pc2 ls (vi 1 :: st) I L R Z Q) : AWq l E d M Z0 pc ls st I L R Z Q := by
  obtain ⟨hd, rfl⟩ := hd
  refine k.lift (fun v1 v2 => ⟨vc1 trivial v1, v2⟩) (fun p e Rm s m args below meth c cells slots Qs F als H locs hl v1 hW hS kk => ?_)
  exact va_gets F.1 F.2.1 F.2.2.2.2.2.1.2.2.2.2.2.2.1.1 hS F.2.2.2.1 (F.2.2.2.2.1 _ hlk) (fun _ h => h) hd (kk als hl)
theorem aw_gsFm {idx : Nat} (hd : Dc M pc (.getstatic idx) 3 pc2) (hlk : Cond.fieldLink M.1.cls idx "jdk/internal/util/Preconditions" "SIOOBE_FORMATTER" "Ljava/util/function/BiFunction;" ∈ G) (k : ∀ r, AWq l E d M Z0 pc2 ls (vo r :: st) I L R Z Q) : AWq l E d M Z0 pc ls st I L R Z Q := by
  obtain ⟨hd, rfl⟩ := hd
  by_cases h0 : E.2.2.2.1 55 0 = 0
  · refine (k none).lift (fun v1 v2 => ⟨vc1 trivial v1, v2⟩) (fun p e Rm s m args below meth c cells slots Qs F als H locs hl v1 hW hS kk => ?_)
    have hz := F.2.2.2.2.2.1.2.2.2.2.2.2.1.2
    rw [if_pos h0] at hz
    exact va_gets F.1 F.2.1 hz hS F.2.2.2.1 (F.2.2.2.2.1 _ hlk) (fun _ h => h) hd (kk als hl)
  · refine (k (some (54, 0))).lift (fun v1 v2 => ⟨vc1 (Or.inl (by decide)) v1, v2⟩) (fun p e Rm s m args below meth c cells slots Qs F als H locs hl v1 hW hS kk => ?_)
    have hz := F.2.2.2.2.2.1.2.2.2.2.2.2.1.2
    rw [if_neg h0] at hz
    exact va_gets F.1 F.2.1 hz hS F.2.2.2.1 (F.2.2.2.2.1 _ hlk) (fun _ h => h) hd (kk als hl)
theorem slen4 {i : Nat} (h : i < 2) : ([4, 4] : List Nat).getD i 0 = 4 := by
  rcases (by omega : i = 0 ∨ i = 1) with rfl | rfl <;> rfl
theorem aw_strLen {i : Nat} (hd : Dc M pc .arraylength 1 pc2) (hi : i < 2) (k : AWq l E d M Z0 pc2 ls (vi (nI 4) :: st) I L R Z Q) : AWq l E d M Z0 pc ls (vr 52 i :: st) I L R Z Q := by
  obtain ⟨hd, rfl⟩ := hd
  refine k.lift (fun v1 v2 => ⟨vc1 trivial (vt1 v1), v2⟩) (fun p e Rm s m args below meth c cells slots Qs F als H locs hl v1 hW hS kk => ?_)
  have hT := (F.2.2.2.2.2.1.2.2.2.2.2.1.1 i hi).2.2.2
  rw [slen4 hi] at hT
  exact va_tlen F.1 F.2.1 hT hS rfl hd (kk als hl)
theorem aw_strB {x : Int32} {i n : Nat} (hd : Dc M pc .baload 1 pc2) (hi : i < 2) (hx : x = nI n) (hn : n < 4) (k : AWq l E d M Z0 pc2 ls (vi ((sby.getD i []).getD n 0) :: st) I L R Z Q) : AWq l E d M Z0 pc ls (vi x :: vr 52 i :: st) I L R Z Q := by
  obtain ⟨hd, rfl⟩ := hd
  subst hx
  refine k.lift (fun v1 v2 => ⟨vc1 trivial (vt1 (vt1 v1)), v2⟩) (fun p e Rm s m args below meth c cells slots Qs F als H locs hl v1 hW hS kk => ?_)
  have hT := (F.2.2.2.2.2.1.2.2.2.2.2.1.1 i hi).2.2.2
  rw [slen4 hi] at hT
  exact va_tb F.1 F.2.1 hT hS (in_nI hn (by omega)) (v := .int ((sby.getD i []).getD n 0)) (by rw [nI_clamp (by omega)]) hd (kk als hl)
theorem aw_scLen (hd : Dc M pc .arraylength 1 pc2) (k : AWq l E d M Z0 pc2 ls (vi (nI E.2.2.2.2.1) :: st) I L R Z Q) : AWq l E d M Z0 pc ls (vr 53 0 :: st) I L R Z Q := by
  obtain ⟨hd, rfl⟩ := hd
  refine k.lift (fun v1 v2 => ⟨vc1 trivial (vt1 v1), v2⟩) (fun p e Rm s m args below meth c cells slots Qs F als H locs hl v1 hW hS kk => ?_)
  obtain ⟨hx, hlt⟩ := F.2.2.2.2.2.1.2.2.2.2.2.2.2
  exact va_slen F.1 F.2.1 hx (Nat.lt_of_lt_of_le hlt F.2.2.2.2.2.2.2.2.2.2.2) (Nat.not_le.mpr hlt) hS hd (kk als hl)
theorem aw_scLd {x : Int32} {n : Nat} (hd : Dc M pc .iaload 1 pc2) (hx : x = nI n) (hn : n < E.2.2.2.2.1) (hb : n < 2147483648) (k : AWq l E d M Z0 pc2 ls (vi (E.2.2.2.2.2 n) :: st) I L R Z Q) : AWq l E d M Z0 pc ls (vi x :: vr 53 0 :: st) I L R Z Q := by
  obtain ⟨hd, rfl⟩ := hd
  subst hx
  refine k.lift (fun v1 v2 => ⟨vc1 trivial (vt1 (vt1 v1)), v2⟩) (fun p e Rm s m args below meth c cells slots Qs F als H locs hl v1 hW hS kk => ?_)
  obtain ⟨hx, hlt⟩ := F.2.2.2.2.2.1.2.2.2.2.2.2.2
  refine va_sld F.1 F.2.1 hx (Nat.lt_of_lt_of_le hlt F.2.2.2.2.2.2.2.2.2.2.2) (Nat.not_le.mpr hlt) hS (in_nI hn hb) hd ?_
  rw [nI_clamp hb]
  exact kk als hl
theorem aw_callVS {idx i : Nat} {as : List AV} (hd : Dc M pc (.invokevirtual idx) 3 pc2) (hlk : Cond.methodLink M.1.cls idx M2.1 ∈ G) (hf : MF M2 n) (hv : MV M2) (ht : M2.1.cls = "java/lang/String") (hi : i < 2) (hn : as.length = n) (hw : (st.map wd).sum ≤ 8)
    (hm : AMet l E d M2 (vr 51 i :: as) I L R Z (fun r I1 L1 R1 Z1 => AWq l E (d + 1) M Z0 pc2 ls (rst r st) I1 L1 R1 Z1 Q)) : AWq l E (d + 1) M Z0 pc ls (as.reverse ++ vr 51 i :: st) I L R Z Q := by
  obtain ⟨hd, rfl⟩ := hd
  refine AWq.call hm (fun v h1 h2 => h1 v (List.mem_append_right _ (List.mem_cons_of_mem _ h2))) (fun p e Rm s m args below meth c F als H locs cells slots mc ms Qc hsz v1 hW hS hr hM => ?_)
  have hts := F.2.2.2.2.1
  have cw : CallW Rm s args M.1.cls M2.1.cls idx M2.1 M2.2.1 M2.2.2.1 M2.2.2.2 (wsM M2) (rmM d mc ms) mc ms n :=
    ⟨callB_of n hts (goodM hf) rfl rfl rfl (hts _ hf.2.1) (hts _ hlk) hf.2.2.1 (roomM hf.2.2.2.1 F.2.2.2.2.2.2.2.2.2.1 F.2.2.2.2.2.2.2.2.2.2.1), hts _ hv.1, hts _ hv.2⟩
  refine va_runV (As := as.map (cv E)) (b := ad E 51 i) ⟨F.1, F.2.1, F.2.2.1, F.2.2.2.1, hts⟩ hM cw ⟨PcM.blind, by rw [ht]; exact vk_recv F.2.2.2.2.2.1.2.2.2.2.2.1 hi hS, fun U hU hw => ⟨rfl, F.2.2.2.2.2.1.at F.2.2.2.2.2.2.2.2.2.2.2 hS hU hw, by rw [hU]; exact hW, ?_⟩⟩ rfl (by rw [List.length_map]; exact hn) hsz ?_ (lv_room (by rw [wd_sum]; exact hw)) hd hr
  · intro v hv
    rcases List.mem_cons.mp hv with e | hv
    · rw [e]; exact Or.inl (Nat.le_of_ble_eq_true rfl)
    · exact v1 v (List.mem_append_left _ (List.mem_reverse.mpr hv))
  · show (as.reverse ++ vr 51 i :: st).map (cv E) = _
    rw [List.map_append, List.map_reverse, List.map_cons]
    rfl
end STAT
end
section
set_option maxRecDepth 100000 in
theorem ii_Lw : Cond.initialized "PowerBondsLaw" ∈ G := G_at (i := 78) (by decide +kernel) rfl
set_option maxRecDepth 100000 in
theorem ii_Pb : Cond.initialized "PowerBonds" ∈ G := G_at (i := 79) (by decide +kernel) rfl
set_option maxRecDepth 100000 in
theorem ii_Ma : Cond.initialized "PowerBonds$Machine" ∈ G := G_at (i := 80) (by decide +kernel) rfl
set_option maxRecDepth 100000 in
theorem ii_Pa : Cond.initialized "PowerBonds$Part" ∈ G := G_at (i := 81) (by decide +kernel) rfl
set_option maxRecDepth 100000 in
theorem ii_An : Cond.initialized "PowerBonds$Answer" ∈ G := G_at (i := 82) (by decide +kernel) rfl
set_option maxRecDepth 100000 in
theorem ii_Lu : Cond.initialized "PowerBonds$LineUps" ∈ G := G_at (i := 83) (by decide +kernel) rfl
set_option maxRecDepth 100000 in
theorem ii_Ta : Cond.initialized "PowerBonds$Tape" ∈ G := G_at (i := 84) (by decide +kernel) rfl
set_option maxRecDepth 100000 in
theorem ii_Sh : Cond.initialized "PowerBonds$Sheet" ∈ G := G_at (i := 85) (by decide +kernel) rfl
set_option maxRecDepth 100000 in
theorem ii_Sl : Cond.initialized "PowerBonds$Slot" ∈ G := G_at (i := 86) (by decide +kernel) rfl
set_option maxRecDepth 100000 in
theorem ii_Mo : Cond.initialized "PowerBondsModel" ∈ G := G_at (i := 87) (by decide +kernel) rfl
set_option maxRecDepth 100000 in
theorem ii_Jm : Cond.initialized "java/lang/Math" ∈ G := G_at (i := 88) (by decide +kernel) rfl
set_option maxRecDepth 100000 in
theorem ii_Ji : Cond.initialized "java/lang/Integer" ∈ G := G_at (i := 89) (by decide +kernel) rfl
set_option maxRecDepth 100000 in
theorem ii_Ja : Cond.initialized "java/util/Arrays" ∈ G := G_at (i := 90) (by decide +kernel) rfl
set_option maxRecDepth 100000 in
theorem ii_Tx : Cond.initialized "PowerBonds$Text" ∈ G := G_at (i := 91) (by decide +kernel) rfl
set_option maxRecDepth 100000 in
theorem ii_Js : Cond.initialized "java/lang/String" ∈ G := G_at (i := 92) (by decide +kernel) rfl
set_option maxRecDepth 100000 in
theorem ii_Jl : Cond.initialized "java/lang/StringLatin1" ∈ G := G_at (i := 93) (by decide +kernel) rfl
set_option maxRecDepth 100000 in
theorem ii_Jp : Cond.initialized "jdk/internal/util/Preconditions" ∈ G := G_at (i := 94) (by decide +kernel) rfl
set_option maxRecDepth 100000 in
theorem ii_Ju : Cond.initialized "java/lang/StringUTF16" ∈ G := G_at (i := 95) (by decide +kernel) rfl
set_option maxRecDepth 100000 in
theorem ii_Jy : Cond.initialized "java/lang/System" ∈ G := G_at (i := 96) (by decide +kernel) rfl
set_option maxRecDepth 100000 in
theorem cl_Lw_7 : Cond.classLink "PowerBondsLaw" 7 "PowerBonds" ∈ G := G_at (i := 97) (by decide +kernel) rfl
set_option maxRecDepth 100000 in
theorem in_Pb : Cond.instantiable "PowerBonds" 13 ∈ G := G_at (i := 98) (by decide +kernel) rfl
set_option maxRecDepth 100000 in
theorem ml_Lw_9 : Cond.methodLink "PowerBondsLaw" 9 M_Pb_init.1 ∈ G := G_at (i := 99) (by decide +kernel) rfl
set_option maxRecDepth 100000 in
theorem ml_Pb_1 : Cond.methodLink "PowerBonds" 1 Lib.objectInit ∈ G := G_at (i := 102) (by decide +kernel) rfl
set_option maxRecDepth 100000 in
theorem cl_Pb_7 : Cond.classLink "PowerBonds" 7 "PowerBonds$Machine" ∈ G := G_at (i := 105) (by decide +kernel) rfl
set_option maxRecDepth 100000 in
theorem in_Ma : Cond.instantiable "PowerBonds$Machine" 8 ∈ G := G_at (i := 106) (by decide +kernel) rfl
set_option maxRecDepth 100000 in
theorem ml_Pb_9 : Cond.methodLink "PowerBonds" 9 M_Ma_init.1 ∈ G := G_at (i := 107) (by decide +kernel) rfl
set_option maxRecDepth 100000 in
theorem ml_Ma_3 : Cond.methodLink "PowerBonds$Machine" 3 Lib.objectInit ∈ G := G_at (i := 110) (by decide +kernel) rfl
set_option maxRecDepth 100000 in
theorem cl_Ma_9 : Cond.classLink "PowerBonds$Machine" 9 "PowerBonds$Part" ∈ G := G_at (i := 111) (by decide +kernel) rfl
set_option maxRecDepth 100000 in
theorem cl_Ma_24 : Cond.classLink "PowerBonds$Machine" 24 "PowerBonds$Text" ∈ G := G_at (i := 113) (by decide +kernel) rfl
set_option maxRecDepth 100000 in
theorem in_Pa : Cond.instantiable "PowerBonds$Part" 5 ∈ G := G_at (i := 115) (by decide +kernel) rfl
set_option maxRecDepth 100000 in
theorem mn_Ma_30 : Cond.methodLinkNest "PowerBonds$Machine" 30 M_Pa_init.1 "PowerBonds" ∈ Gn := Gn_at (i := 116) (by decide +kernel) rfl
set_option maxRecDepth 100000 in
theorem ml_Pa_3 : Cond.methodLink "PowerBonds$Part" 3 Lib.objectInit ∈ G := G_at (i := 119) (by decide +kernel) rfl
set_option maxRecDepth 100000 in
theorem fl_Pa_9 : FL "PowerBonds$Part" 9 3 0 := ⟨⟨by decide, by decide⟩, G_at (i := 120) (by decide +kernel) rfl⟩
set_option maxRecDepth 100000 in
theorem fl_Pb_93 : FL "PowerBonds" 93 3 0 := ⟨⟨by decide, by decide⟩, G_at (i := 121) (by decide +kernel) rfl⟩
set_option maxRecDepth 100000 in
theorem fl_Lu_62 : FL "PowerBonds$LineUps" 62 3 0 := ⟨⟨by decide, by decide⟩, G_at (i := 122) (by decide +kernel) rfl⟩
set_option maxRecDepth 100000 in
theorem fl_An_63 : FL "PowerBonds$Answer" 63 3 0 := ⟨⟨by decide, by decide⟩, G_at (i := 123) (by decide +kernel) rfl⟩
set_option maxRecDepth 100000 in
theorem fl_Ma_56 : FL "PowerBonds$Machine" 56 3 0 := ⟨⟨by decide, by decide⟩, G_at (i := 124) (by decide +kernel) rfl⟩
set_option maxRecDepth 100000 in
theorem fl_Pa_15 : FL "PowerBonds$Part" 15 3 1 := ⟨⟨by decide, by decide⟩, G_at (i := 125) (by decide +kernel) rfl⟩
set_option maxRecDepth 100000 in
theorem fl_Pb_96 : FL "PowerBonds" 96 3 1 := ⟨⟨by decide, by decide⟩, G_at (i := 126) (by decide +kernel) rfl⟩
set_option maxRecDepth 100000 in
theorem fl_An_91 : FL "PowerBonds$Answer" 91 3 1 := ⟨⟨by decide, by decide⟩, G_at (i := 127) (by decide +kernel) rfl⟩
set_option maxRecDepth 100000 in
theorem fl_Lu_78 : FL "PowerBonds$LineUps" 78 3 1 := ⟨⟨by decide, by decide⟩, G_at (i := 128) (by decide +kernel) rfl⟩
set_option maxRecDepth 100000 in
theorem fl_Ma_89 : FL "PowerBonds$Machine" 89 3 1 := ⟨⟨by decide, by decide⟩, G_at (i := 129) (by decide +kernel) rfl⟩
set_option maxRecDepth 100000 in
theorem fl_Pa_25 : FL "PowerBonds$Part" 25 3 2 := ⟨⟨by decide, by decide⟩, G_at (i := 130) (by decide +kernel) rfl⟩
set_option maxRecDepth 100000 in
theorem fl_Pb_326 : FL "PowerBonds" 326 3 2 := ⟨⟨by decide, by decide⟩, G_at (i := 131) (by decide +kernel) rfl⟩
set_option maxRecDepth 100000 in
theorem fl_Pa_28 : FL "PowerBonds$Part" 28 3 3 := ⟨⟨by decide, by decide⟩, G_at (i := 132) (by decide +kernel) rfl⟩
set_option maxRecDepth 100000 in
theorem fl_Pa_22 : FL "PowerBonds$Part" 22 3 4 := ⟨⟨by decide, by decide⟩, G_at (i := 133) (by decide +kernel) rfl⟩
set_option maxRecDepth 100000 in
theorem fl_Pb_103 : FL "PowerBonds" 103 3 4 := ⟨⟨by decide, by decide⟩, G_at (i := 134) (by decide +kernel) rfl⟩
set_option maxRecDepth 100000 in
theorem fl_An_101 : FL "PowerBonds$Answer" 101 3 4 := ⟨⟨by decide, by decide⟩, G_at (i := 135) (by decide +kernel) rfl⟩
set_option maxRecDepth 100000 in
theorem fl_Ma_59 : FL "PowerBonds$Machine" 59 3 4 := ⟨⟨by decide, by decide⟩, G_at (i := 136) (by decide +kernel) rfl⟩
set_option maxRecDepth 100000 in
theorem ac_int : Cond.arrayClass .int ∈ G := G_at (i := 148) (by decide +kernel) rfl
set_option maxRecDepth 100000 in
theorem fl_Ma_11 : FL "PowerBonds$Machine" 11 2 0 := ⟨⟨by decide, by decide⟩, G_at (i := 149) (by decide +kernel) rfl⟩
set_option maxRecDepth 100000 in
theorem fl_Pb_80 : FL "PowerBonds" 80 2 0 := ⟨⟨by decide, by decide⟩, G_at (i := 150) (by decide +kernel) rfl⟩
set_option maxRecDepth 100000 in
theorem fl_Lu_58 : FL "PowerBonds$LineUps" 58 2 0 := ⟨⟨by decide, by decide⟩, G_at (i := 151) (by decide +kernel) rfl⟩
set_option maxRecDepth 100000 in
theorem fl_An_56 : FL "PowerBonds$Answer" 56 2 0 := ⟨⟨by decide, by decide⟩, G_at (i := 152) (by decide +kernel) rfl⟩
set_option maxRecDepth 100000 in
theorem fl_Ma_17 : FL "PowerBonds$Machine" 17 2 1 := ⟨⟨by decide, by decide⟩, G_at (i := 153) (by decide +kernel) rfl⟩
set_option maxRecDepth 100000 in
theorem fl_Lu_30 : FL "PowerBonds$LineUps" 30 2 1 := ⟨⟨by decide, by decide⟩, G_at (i := 154) (by decide +kernel) rfl⟩
set_option maxRecDepth 100000 in
theorem fl_Pb_130 : FL "PowerBonds" 130 2 1 := ⟨⟨by decide, by decide⟩, G_at (i := 155) (by decide +kernel) rfl⟩
set_option maxRecDepth 100000 in
theorem fl_An_111 : FL "PowerBonds$Answer" 111 2 1 := ⟨⟨by decide, by decide⟩, G_at (i := 156) (by decide +kernel) rfl⟩
set_option maxRecDepth 100000 in
theorem fl_Ma_21 : FL "PowerBonds$Machine" 21 2 2 := ⟨⟨by decide, by decide⟩, G_at (i := 157) (by decide +kernel) rfl⟩
set_option maxRecDepth 100000 in
theorem fl_Lu_27 : FL "PowerBonds$LineUps" 27 2 2 := ⟨⟨by decide, by decide⟩, G_at (i := 158) (by decide +kernel) rfl⟩
set_option maxRecDepth 100000 in
theorem fl_Pb_133 : FL "PowerBonds" 133 2 2 := ⟨⟨by decide, by decide⟩, G_at (i := 159) (by decide +kernel) rfl⟩
set_option maxRecDepth 100000 in
theorem fl_An_108 : FL "PowerBonds$Answer" 108 2 2 := ⟨⟨by decide, by decide⟩, G_at (i := 160) (by decide +kernel) rfl⟩
set_option maxRecDepth 100000 in
theorem fl_Ma_26 : FL "PowerBonds$Machine" 26 2 3 := ⟨⟨by decide, by decide⟩, G_at (i := 161) (by decide +kernel) rfl⟩
set_option maxRecDepth 100000 in
theorem fl_Pb_208 : FL "PowerBonds" 208 2 3 := ⟨⟨by decide, by decide⟩, G_at (i := 162) (by decide +kernel) rfl⟩
set_option maxRecDepth 100000 in
theorem fl_Lu_18 : FL "PowerBonds$LineUps" 18 2 4 := ⟨⟨by decide, by decide⟩, G_at (i := 163) (by decide +kernel) rfl⟩
set_option maxRecDepth 100000 in
theorem fl_Ma_31 : FL "PowerBonds$Machine" 31 2 4 := ⟨⟨by decide, by decide⟩, G_at (i := 164) (by decide +kernel) rfl⟩
set_option maxRecDepth 100000 in
theorem fl_Pb_75 : FL "PowerBonds" 75 2 4 := ⟨⟨by decide, by decide⟩, G_at (i := 165) (by decide +kernel) rfl⟩
set_option maxRecDepth 100000 in
theorem fl_An_53 : FL "PowerBonds$Answer" 53 2 4 := ⟨⟨by decide, by decide⟩, G_at (i := 166) (by decide +kernel) rfl⟩
set_option maxRecDepth 100000 in
theorem fl_Lu_24 : FL "PowerBonds$LineUps" 24 2 5 := ⟨⟨by decide, by decide⟩, G_at (i := 167) (by decide +kernel) rfl⟩
set_option maxRecDepth 100000 in
theorem fl_Ma_39 : FL "PowerBonds$Machine" 39 2 5 := ⟨⟨by decide, by decide⟩, G_at (i := 168) (by decide +kernel) rfl⟩
set_option maxRecDepth 100000 in
theorem fl_An_46 : FL "PowerBonds$Answer" 46 2 5 := ⟨⟨by decide, by decide⟩, G_at (i := 169) (by decide +kernel) rfl⟩
set_option maxRecDepth 100000 in
theorem fl_Pb_127 : FL "PowerBonds" 127 2 5 := ⟨⟨by decide, by decide⟩, G_at (i := 170) (by decide +kernel) rfl⟩
set_option maxRecDepth 100000 in
theorem fl_Ma_42 : FL "PowerBonds$Machine" 42 2 6 := ⟨⟨by decide, by decide⟩, G_at (i := 171) (by decide +kernel) rfl⟩
set_option maxRecDepth 100000 in
theorem fl_Pb_205 : FL "PowerBonds" 205 2 6 := ⟨⟨by decide, by decide⟩, G_at (i := 172) (by decide +kernel) rfl⟩
set_option maxRecDepth 100000 in
theorem fl_Ma_45 : FL "PowerBonds$Machine" 45 2 7 := ⟨⟨by decide, by decide⟩, G_at (i := 173) (by decide +kernel) rfl⟩
set_option maxRecDepth 100000 in
theorem fl_Pb_182 : FL "PowerBonds" 182 2 7 := ⟨⟨by decide, by decide⟩, G_at (i := 174) (by decide +kernel) rfl⟩
set_option maxRecDepth 100000 in
theorem cl_Pb_22 : Cond.classLink "PowerBonds" 22 "PowerBonds$Answer" ∈ G := G_at (i := 192) (by decide +kernel) rfl
set_option maxRecDepth 100000 in
theorem in_An : Cond.instantiable "PowerBonds$Answer" 5 ∈ G := G_at (i := 193) (by decide +kernel) rfl
set_option maxRecDepth 100000 in
theorem mn_Pb_24 : Cond.methodLinkNest "PowerBonds" 24 M_An_init.1 "PowerBonds" ∈ Gn := Gn_at (i := 194) (by decide +kernel) rfl
set_option maxRecDepth 100000 in
theorem ml_An_3 : Cond.methodLink "PowerBonds$Answer" 3 Lib.objectInit ∈ G := G_at (i := 197) (by decide +kernel) rfl
set_option maxRecDepth 100000 in
theorem cl_An_18 : Cond.classLink "PowerBonds$Answer" 18 "[[J" ∈ G := G_at (i := 198) (by decide +kernel) rfl
set_option maxRecDepth 100000 in
theorem fl_An_9 : FL "PowerBonds$Answer" 9 0 0 := ⟨⟨by decide, by decide⟩, G_at (i := 200) (by decide +kernel) rfl⟩
set_option maxRecDepth 100000 in
theorem fl_Ma_97 : FL "PowerBonds$Machine" 97 0 0 := ⟨⟨by decide, by decide⟩, G_at (i := 201) (by decide +kernel) rfl⟩
set_option maxRecDepth 100000 in
theorem fl_Pb_231 : FL "PowerBonds" 231 0 0 := ⟨⟨by decide, by decide⟩, G_at (i := 202) (by decide +kernel) rfl⟩
set_option maxRecDepth 100000 in
theorem fl_An_15 : FL "PowerBonds$Answer" 15 0 1 := ⟨⟨by decide, by decide⟩, G_at (i := 203) (by decide +kernel) rfl⟩
set_option maxRecDepth 100000 in
theorem fl_Ma_92 : FL "PowerBonds$Machine" 92 0 1 := ⟨⟨by decide, by decide⟩, G_at (i := 204) (by decide +kernel) rfl⟩
set_option maxRecDepth 100000 in
theorem fl_Pb_234 : FL "PowerBonds" 234 0 1 := ⟨⟨by decide, by decide⟩, G_at (i := 205) (by decide +kernel) rfl⟩
set_option maxRecDepth 100000 in
theorem fl_An_20 : FL "PowerBonds$Answer" 20 0 2 := ⟨⟨by decide, by decide⟩, G_at (i := 206) (by decide +kernel) rfl⟩
set_option maxRecDepth 100000 in
theorem fl_An_38 : FL "PowerBonds$Answer" 38 0 3 := ⟨⟨by decide, by decide⟩, G_at (i := 207) (by decide +kernel) rfl⟩
set_option maxRecDepth 100000 in
theorem fl_An_42 : FL "PowerBonds$Answer" 42 0 4 := ⟨⟨by decide, by decide⟩, G_at (i := 208) (by decide +kernel) rfl⟩
set_option maxRecDepth 100000 in
theorem ac_long : Cond.arrayClass .long ∈ G := G_at (i := 220) (by decide +kernel) rfl
set_option maxRecDepth 100000 in
theorem cl_Pb_32 : Cond.classLink "PowerBonds" 32 "PowerBonds$LineUps" ∈ G := G_at (i := 221) (by decide +kernel) rfl
set_option maxRecDepth 100000 in
theorem in_Lu : Cond.instantiable "PowerBonds$LineUps" 5 ∈ G := G_at (i := 222) (by decide +kernel) rfl
set_option maxRecDepth 100000 in
theorem mn_Pb_34 : Cond.methodLinkNest "PowerBonds" 34 M_Lu_init.1 "PowerBonds" ∈ Gn := Gn_at (i := 223) (by decide +kernel) rfl
set_option maxRecDepth 100000 in
theorem ml_Lu_3 : Cond.methodLink "PowerBonds$LineUps" 3 Lib.objectInit ∈ G := G_at (i := 226) (by decide +kernel) rfl
set_option maxRecDepth 100000 in
theorem fl_Lu_9 : FL "PowerBonds$LineUps" 9 1 0 := ⟨⟨by decide, by decide⟩, G_at (i := 227) (by decide +kernel) rfl⟩
set_option maxRecDepth 100000 in
theorem fl_Lu_15 : FL "PowerBonds$LineUps" 15 1 1 := ⟨⟨by decide, by decide⟩, G_at (i := 228) (by decide +kernel) rfl⟩
set_option maxRecDepth 100000 in
theorem fl_Lu_37 : FL "PowerBonds$LineUps" 37 1 2 := ⟨⟨by decide, by decide⟩, G_at (i := 229) (by decide +kernel) rfl⟩
set_option maxRecDepth 100000 in
theorem fl_Pb_162 : FL "PowerBonds" 162 1 2 := ⟨⟨by decide, by decide⟩, G_at (i := 230) (by decide +kernel) rfl⟩
set_option maxRecDepth 100000 in
theorem fl_Lu_40 : FL "PowerBonds$LineUps" 40 1 3 := ⟨⟨by decide, by decide⟩, G_at (i := 231) (by decide +kernel) rfl⟩
set_option maxRecDepth 100000 in
theorem fl_Pb_166 : FL "PowerBonds" 166 1 3 := ⟨⟨by decide, by decide⟩, G_at (i := 232) (by decide +kernel) rfl⟩
set_option maxRecDepth 100000 in
theorem fl_Lu_43 : FL "PowerBonds$LineUps" 43 1 4 := ⟨⟨by decide, by decide⟩, G_at (i := 233) (by decide +kernel) rfl⟩
set_option maxRecDepth 100000 in
theorem fl_Pb_169 : FL "PowerBonds" 169 1 4 := ⟨⟨by decide, by decide⟩, G_at (i := 234) (by decide +kernel) rfl⟩
set_option maxRecDepth 100000 in
theorem cl_Pb_39 : Cond.classLink "PowerBonds" 39 "PowerBonds$Tape" ∈ G := G_at (i := 246) (by decide +kernel) rfl
set_option maxRecDepth 100000 in
theorem in_Ta : Cond.instantiable "PowerBonds$Tape" 9 ∈ G := G_at (i := 247) (by decide +kernel) rfl
set_option maxRecDepth 100000 in
theorem mn_Pb_41 : Cond.methodLinkNest "PowerBonds" 41 M_Ta_init.1 "PowerBonds" ∈ Gn := Gn_at (i := 248) (by decide +kernel) rfl
set_option maxRecDepth 100000 in
theorem ml_Ta_3 : Cond.methodLink "PowerBonds$Tape" 3 Lib.objectInit ∈ G := G_at (i := 251) (by decide +kernel) rfl
set_option maxRecDepth 100000 in
theorem fl_Ta_19 : FL "PowerBonds$Tape" 19 6 0 := ⟨⟨by decide, by decide⟩, G_at (i := 252) (by decide +kernel) rfl⟩
set_option maxRecDepth 100000 in
theorem fl_Pb_192 : FL "PowerBonds" 192 6 0 := ⟨⟨by decide, by decide⟩, G_at (i := 253) (by decide +kernel) rfl⟩
set_option maxRecDepth 100000 in
theorem fl_Ta_63 : FL "PowerBonds$Tape" 63 6 1 := ⟨⟨by decide, by decide⟩, G_at (i := 254) (by decide +kernel) rfl⟩
set_option maxRecDepth 100000 in
theorem fl_Pb_202 : FL "PowerBonds" 202 6 1 := ⟨⟨by decide, by decide⟩, G_at (i := 255) (by decide +kernel) rfl⟩
set_option maxRecDepth 100000 in
theorem fl_Ta_9 : FL "PowerBonds$Tape" 9 6 2 := ⟨⟨by decide, by decide⟩, G_at (i := 256) (by decide +kernel) rfl⟩
set_option maxRecDepth 100000 in
theorem fl_Ta_23 : FL "PowerBonds$Tape" 23 6 3 := ⟨⟨by decide, by decide⟩, G_at (i := 257) (by decide +kernel) rfl⟩
set_option maxRecDepth 100000 in
theorem fl_Ta_26 : FL "PowerBonds$Tape" 26 6 4 := ⟨⟨by decide, by decide⟩, G_at (i := 258) (by decide +kernel) rfl⟩
set_option maxRecDepth 100000 in
theorem fl_Ta_42 : FL "PowerBonds$Tape" 42 6 5 := ⟨⟨by decide, by decide⟩, G_at (i := 259) (by decide +kernel) rfl⟩
set_option maxRecDepth 100000 in
theorem fl_Ta_15 : FL "PowerBonds$Tape" 15 6 6 := ⟨⟨by decide, by decide⟩, G_at (i := 260) (by decide +kernel) rfl⟩
set_option maxRecDepth 100000 in
theorem fl_Ta_29 : FL "PowerBonds$Tape" 29 6 7 := ⟨⟨by decide, by decide⟩, G_at (i := 261) (by decide +kernel) rfl⟩
set_option maxRecDepth 100000 in
theorem fl_Ta_32 : FL "PowerBonds$Tape" 32 6 8 := ⟨⟨by decide, by decide⟩, G_at (i := 262) (by decide +kernel) rfl⟩
set_option maxRecDepth 100000 in
theorem ac_byte : Cond.arrayClass .byte ∈ G := G_at (i := 282) (by decide +kernel) rfl
set_option maxRecDepth 100000 in
theorem cl_Pb_53 : Cond.classLink "PowerBonds" 53 "PowerBonds$Sheet" ∈ G := G_at (i := 283) (by decide +kernel) rfl
set_option maxRecDepth 100000 in
theorem cl_Pb_59 : Cond.classLink "PowerBonds" 59 "PowerBonds$Slot" ∈ G := G_at (i := 285) (by decide +kernel) rfl
set_option maxRecDepth 100000 in
theorem in_Sh : Cond.instantiable "PowerBonds$Sheet" 3 ∈ G := G_at (i := 287) (by decide +kernel) rfl
set_option maxRecDepth 100000 in
theorem mn_Pb_65 : Cond.methodLinkNest "PowerBonds" 65 M_Sh_init.1 "PowerBonds" ∈ Gn := Gn_at (i := 288) (by decide +kernel) rfl
set_option maxRecDepth 100000 in
theorem ml_Sh_3 : Cond.methodLink "PowerBonds$Sheet" 3 Lib.objectInit ∈ G := G_at (i := 291) (by decide +kernel) rfl
set_option maxRecDepth 100000 in
theorem fl_Sh_9 : FL "PowerBonds$Sheet" 9 4 0 := ⟨⟨by decide, by decide⟩, G_at (i := 292) (by decide +kernel) rfl⟩
set_option maxRecDepth 100000 in
theorem fl_Pb_268 : FL "PowerBonds" 268 4 0 := ⟨⟨by decide, by decide⟩, G_at (i := 293) (by decide +kernel) rfl⟩
set_option maxRecDepth 100000 in
theorem fl_Sh_19 : FL "PowerBonds$Sheet" 19 4 1 := ⟨⟨by decide, by decide⟩, G_at (i := 294) (by decide +kernel) rfl⟩
set_option maxRecDepth 100000 in
theorem fl_Sh_15 : FL "PowerBonds$Sheet" 15 4 2 := ⟨⟨by decide, by decide⟩, G_at (i := 295) (by decide +kernel) rfl⟩
set_option maxRecDepth 100000 in
theorem fl_Pb_274 : FL "PowerBonds" 274 4 2 := ⟨⟨by decide, by decide⟩, G_at (i := 296) (by decide +kernel) rfl⟩
set_option maxRecDepth 100000 in
theorem in_Sl : Cond.instantiable "PowerBonds$Slot" 4 ∈ G := G_at (i := 304) (by decide +kernel) rfl
set_option maxRecDepth 100000 in
theorem mn_Pb_66 : Cond.methodLinkNest "PowerBonds" 66 M_Sl_init.1 "PowerBonds" ∈ Gn := Gn_at (i := 305) (by decide +kernel) rfl
set_option maxRecDepth 100000 in
theorem ml_Sl_3 : Cond.methodLink "PowerBonds$Slot" 3 Lib.objectInit ∈ G := G_at (i := 308) (by decide +kernel) rfl
set_option maxRecDepth 100000 in
theorem cl_Sl_15 : Cond.classLink "PowerBonds$Slot" 15 "PowerBonds$Part" ∈ G := G_at (i := 309) (by decide +kernel) rfl
set_option maxRecDepth 100000 in
theorem mn_Sl_17 : Cond.methodLinkNest "PowerBonds$Slot" 17 M_Pa_init.1 "PowerBonds" ∈ Gn := Gn_at (i := 310) (by decide +kernel) rfl
set_option maxRecDepth 100000 in
theorem cl_Sl_22 : Cond.classLink "PowerBonds$Slot" 22 "PowerBonds$Sheet" ∈ G := G_at (i := 311) (by decide +kernel) rfl
set_option maxRecDepth 100000 in
theorem mn_Sl_24 : Cond.methodLinkNest "PowerBonds$Slot" 24 M_Sh_init.1 "PowerBonds" ∈ Gn := Gn_at (i := 312) (by decide +kernel) rfl
set_option maxRecDepth 100000 in
theorem fl_Sl_9 : FL "PowerBonds$Slot" 9 5 0 := ⟨⟨by decide, by decide⟩, G_at (i := 313) (by decide +kernel) rfl⟩
set_option maxRecDepth 100000 in
theorem fl_Pb_290 : FL "PowerBonds" 290 5 0 := ⟨⟨by decide, by decide⟩, G_at (i := 314) (by decide +kernel) rfl⟩
set_option maxRecDepth 100000 in
theorem fl_Pb_307 : FL "PowerBonds" 307 5 1 := ⟨⟨by decide, by decide⟩, G_at (i := 315) (by decide +kernel) rfl⟩
set_option maxRecDepth 100000 in
theorem fl_Sl_18 : FL "PowerBonds$Slot" 18 5 2 := ⟨⟨by decide, by decide⟩, G_at (i := 316) (by decide +kernel) rfl⟩
set_option maxRecDepth 100000 in
theorem fl_Pb_293 : FL "PowerBonds" 293 5 2 := ⟨⟨by decide, by decide⟩, G_at (i := 317) (by decide +kernel) rfl⟩
set_option maxRecDepth 100000 in
theorem fl_Sl_25 : FL "PowerBonds$Slot" 25 5 3 := ⟨⟨by decide, by decide⟩, G_at (i := 318) (by decide +kernel) rfl⟩
set_option maxRecDepth 100000 in
theorem fl_Pb_300 : FL "PowerBonds" 300 5 3 := ⟨⟨by decide, by decide⟩, G_at (i := 319) (by decide +kernel) rfl⟩
set_option maxRecDepth 100000 in
theorem fl_Pb_10 : FL "PowerBonds" 10 8 0 := ⟨⟨by decide, by decide⟩, G_at (i := 329) (by decide +kernel) rfl⟩
set_option maxRecDepth 100000 in
theorem fl_Pb_16 : FL "PowerBonds" 16 8 1 := ⟨⟨by decide, by decide⟩, G_at (i := 330) (by decide +kernel) rfl⟩
set_option maxRecDepth 100000 in
theorem fl_Pb_19 : FL "PowerBonds" 19 8 2 := ⟨⟨by decide, by decide⟩, G_at (i := 331) (by decide +kernel) rfl⟩
set_option maxRecDepth 100000 in
theorem fl_Pb_25 : FL "PowerBonds" 25 8 3 := ⟨⟨by decide, by decide⟩, G_at (i := 332) (by decide +kernel) rfl⟩
set_option maxRecDepth 100000 in
theorem fl_Pb_29 : FL "PowerBonds" 29 8 4 := ⟨⟨by decide, by decide⟩, G_at (i := 333) (by decide +kernel) rfl⟩
set_option maxRecDepth 100000 in
theorem fl_Pb_35 : FL "PowerBonds" 35 8 5 := ⟨⟨by decide, by decide⟩, G_at (i := 334) (by decide +kernel) rfl⟩
set_option maxRecDepth 100000 in
theorem fl_Pb_42 : FL "PowerBonds" 42 8 6 := ⟨⟨by decide, by decide⟩, G_at (i := 335) (by decide +kernel) rfl⟩
set_option maxRecDepth 100000 in
theorem fl_Pb_46 : FL "PowerBonds" 46 8 7 := ⟨⟨by decide, by decide⟩, G_at (i := 336) (by decide +kernel) rfl⟩
set_option maxRecDepth 100000 in
theorem fl_Pb_50 : FL "PowerBonds" 50 8 8 := ⟨⟨by decide, by decide⟩, G_at (i := 337) (by decide +kernel) rfl⟩
set_option maxRecDepth 100000 in
theorem fl_Pb_55 : FL "PowerBonds" 55 8 9 := ⟨⟨by decide, by decide⟩, G_at (i := 338) (by decide +kernel) rfl⟩
set_option maxRecDepth 100000 in
theorem fl_Pb_61 : FL "PowerBonds" 61 8 10 := ⟨⟨by decide, by decide⟩, G_at (i := 339) (by decide +kernel) rfl⟩
set_option maxRecDepth 100000 in
theorem fl_Pb_313 : FL "PowerBonds" 313 8 11 := ⟨⟨by decide, by decide⟩, G_at (i := 340) (by decide +kernel) rfl⟩
set_option maxRecDepth 100000 in
theorem fl_Pb_316 : FL "PowerBonds" 316 8 12 := ⟨⟨by decide, by decide⟩, G_at (i := 341) (by decide +kernel) rfl⟩
set_option maxRecDepth 100000 in
theorem ml_Lw_13 : Cond.methodLink "PowerBondsLaw" 13 M_Pb_part.1 ∈ G := G_at (i := 369) (by decide +kernel) rfl
set_option maxRecDepth 100000 in
theorem ml_Pb_67 : Cond.methodLink "PowerBonds" 67 M_Pb_isKind.1 ∈ G := G_at (i := 373) (by decide +kernel) rfl
set_option maxRecDepth 100000 in
theorem ml_Pb_71 : Cond.methodLink "PowerBonds" 71 M_Pb_isShare.1 ∈ G := G_at (i := 376) (by decide +kernel) rfl
set_option maxRecDepth 100000 in
theorem kc_Pb_74 : Cond.constant "PowerBonds" 74 (-1000000001) ∈ G := G_at (i := 379) (by decide +kernel) rfl
set_option maxRecDepth 100000 in
theorem kc_Pb_79 : Cond.constant "PowerBonds" 79 (-1000000003) ∈ G := G_at (i := 380) (by decide +kernel) rfl
set_option maxRecDepth 100000 in
theorem ml_Pb_84 : Cond.methodLink "PowerBonds" 84 M_Pa_become.1 ∈ G := G_at (i := 381) (by decide +kernel) rfl
set_option maxRecDepth 100000 in
theorem ml_Pa_18 : Cond.methodLink "PowerBonds$Part" 18 M_Pa_takeShare.1 ∈ G := G_at (i := 385) (by decide +kernel) rfl
set_option maxRecDepth 100000 in
theorem ml_Lw_18 : Cond.methodLink "PowerBondsLaw" 18 M_Pb_told.1 ∈ G := G_at (i := 389) (by decide +kernel) rfl
set_option maxRecDepth 100000 in
theorem ml_Pb_90 : Cond.methodLink "PowerBonds" 90 M_Ma_hasPart.1 ∈ G := G_at (i := 393) (by decide +kernel) rfl
set_option maxRecDepth 100000 in
theorem ml_Pb_99 : Cond.methodLink "PowerBonds" 99 M_Pa_shareCode.1 ∈ G := G_at (i := 397) (by decide +kernel) rfl
set_option maxRecDepth 100000 in
theorem ml_Pb_106 : Cond.methodLink "PowerBonds" 106 M_Ma_endsOf.1 ∈ G := G_at (i := 401) (by decide +kernel) rfl
set_option maxRecDepth 100000 in
theorem ml_Pb_110 : Cond.methodLink "PowerBonds" 110 M_Pa_wants.1 ∈ G := G_at (i := 405) (by decide +kernel) rfl
set_option maxRecDepth 100000 in
theorem ml_Pb_113 : Cond.methodLink "PowerBonds" 113 M_Pa_shareWorth.1 ∈ G := G_at (i := 409) (by decide +kernel) rfl
set_option maxRecDepth 100000 in
theorem mn_Pa_31 : Cond.methodLinkNest "PowerBonds$Part" 31 M_Pb_inverse.1 "PowerBonds" ∈ Gn := Gn_at (i := 413) (by decide +kernel) rfl
set_option maxRecDepth 100000 in
theorem kc_Pb_337 : Cond.constant "PowerBonds" 337 (1000001) ∈ G := G_at (i := 416) (by decide +kernel) rfl
set_option maxRecDepth 100000 in
theorem kl_Pb_335 : Cond.constantLong "PowerBonds" 335 (1000003) ∈ G := G_at (i := 417) (by decide +kernel) rfl
set_option maxRecDepth 100000 in
theorem mn_Pa_35 : Cond.methodLinkNest "PowerBonds$Part" 35 M_Pb_product.1 "PowerBonds" ∈ Gn := Gn_at (i := 418) (by decide +kernel) rfl
set_option maxRecDepth 100000 in
theorem ml_Lw_23 : Cond.methodLink "PowerBondsLaw" 23 M_Pb_as.1 ∈ G := G_at (i := 421) (by decide +kernel) rfl
set_option maxRecDepth 100000 in
theorem ml_Pb_116 : Cond.methodLink "PowerBonds" 116 M_Pa_isOf.1 ∈ G := G_at (i := 425) (by decide +kernel) rfl
set_option maxRecDepth 100000 in
theorem fn_Pa_39 : Cond.fieldLinkNest "PowerBonds$Part" 39 "PowerBonds" "ABOVE" "[I" "PowerBonds" ∈ Gn := Gn_at (i := 429) (by decide +kernel) rfl
set_option maxRecDepth 100000 in
theorem kc_Pb_119 : Cond.constant "PowerBonds" 119 (-1000000012) ∈ G := G_at (i := 431) (by decide +kernel) rfl
set_option maxRecDepth 100000 in
theorem ml_Lw_27 : Cond.methodLink "PowerBondsLaw" 27 M_Pb_set.1 ∈ G := G_at (i := 432) (by decide +kernel) rfl
set_option maxRecDepth 100000 in
theorem ml_Pb_120 : Cond.methodLink "PowerBonds" 120 M_Pa_takeShare.1 ∈ G := G_at (i := 436) (by decide +kernel) rfl
set_option maxRecDepth 100000 in
theorem ml_Pb_124 : Cond.methodLink "PowerBonds" 124 M_Pb_worthOf.1 ∈ G := G_at (i := 437) (by decide +kernel) rfl
set_option maxRecDepth 100000 in
theorem kc_Pb_329 : Cond.constant "PowerBonds" 329 (1000003) ∈ G := G_at (i := 440) (by decide +kernel) rfl
set_option maxRecDepth 100000 in
theorem ml_Pb_330 : Cond.methodLink "PowerBonds" 330 M_Jm_floorMod.1 ∈ G := G_at (i := 441) (by decide +kernel) rfl
set_option maxRecDepth 100000 in
theorem ml_Lw_31 : Cond.methodLink "PowerBondsLaw" 31 M_Pb_bond.1 ∈ G := G_at (i := 444) (by decide +kernel) rfl
set_option maxRecDepth 100000 in
theorem ml_Lw_35 : Cond.methodLink "PowerBondsLaw" 35 M_Pb_breaks.1 ∈ G := G_at (i := 448) (by decide +kernel) rfl
set_option maxRecDepth 100000 in
theorem ml_Pb_136 : Cond.methodLink "PowerBonds" 136 M_Ma_hasBond.1 ∈ G := G_at (i := 452) (by decide +kernel) rfl
set_option maxRecDepth 100000 in
theorem ml_Pb_139 : Cond.methodLink "PowerBonds" 139 M_Ma_dropBond.1 ∈ G := G_at (i := 456) (by decide +kernel) rfl
set_option maxRecDepth 100000 in
theorem ml_Lw_40 : Cond.methodLink "PowerBondsLaw" 40 M_Pb_of.1 ∈ G := G_at (i := 460) (by decide +kernel) rfl
set_option maxRecDepth 100000 in
theorem ml_Pb_142 : Cond.methodLink "PowerBonds" 142 M_Pb_settlerOf.1 ∈ G := G_at (i := 464) (by decide +kernel) rfl
set_option maxRecDepth 100000 in
theorem ml_Pb_149 : Cond.methodLink "PowerBonds" 149 M_Ma_isWhole.1 ∈ G := G_at (i := 468) (by decide +kernel) rfl
set_option maxRecDepth 100000 in
theorem ml_Ma_48 : Cond.methodLink "PowerBonds$Machine" 48 M_Ma_endsOf.1 ∈ G := G_at (i := 472) (by decide +kernel) rfl
set_option maxRecDepth 100000 in
theorem ml_Ma_52 : Cond.methodLink "PowerBonds$Machine" 52 M_Pa_wants.1 ∈ G := G_at (i := 473) (by decide +kernel) rfl
set_option maxRecDepth 100000 in
theorem kc_Pb_157 : Cond.constant "PowerBonds" 157 (-1000000002) ∈ G := G_at (i := 474) (by decide +kernel) rfl
set_option maxRecDepth 100000 in
theorem ml_Pb_158 : Cond.methodLink "PowerBonds" 158 M_Lu_survey.1 ∈ G := G_at (i := 475) (by decide +kernel) rfl
set_option maxRecDepth 100000 in
theorem ml_Lu_33 : Cond.methodLink "PowerBonds$LineUps" 33 M_Lu_lookAt.1 ∈ G := G_at (i := 479) (by decide +kernel) rfl
set_option maxRecDepth 100000 in
theorem ml_Lu_46 : Cond.methodLink "PowerBonds$LineUps" 46 M_Lu_firstAgainst.1 ∈ G := G_at (i := 483) (by decide +kernel) rfl
set_option maxRecDepth 100000 in
theorem ml_Lu_71 : Cond.methodLink "PowerBonds$LineUps" 71 M_Lu_allows.1 ∈ G := G_at (i := 487) (by decide +kernel) rfl
set_option maxRecDepth 100000 in
theorem ml_Lu_75 : Cond.methodLink "PowerBonds$LineUps" 75 M_Lu_settledBy.1 ∈ G := G_at (i := 491) (by decide +kernel) rfl
set_option maxRecDepth 100000 in
theorem ml_Lu_81 : Cond.methodLink "PowerBonds$LineUps" 81 M_Ji_bitCount.1 ∈ G := G_at (i := 495) (by decide +kernel) rfl
set_option maxRecDepth 100000 in
theorem kc_Ji_265 : Cond.constant "java/lang/Integer" 265 (1431655765) ∈ G := G_at (i := 498) (by decide +kernel) rfl
set_option maxRecDepth 100000 in
theorem kc_Ji_266 : Cond.constant "java/lang/Integer" 266 (858993459) ∈ G := G_at (i := 499) (by decide +kernel) rfl
set_option maxRecDepth 100000 in
theorem kc_Ji_267 : Cond.constant "java/lang/Integer" 267 (252645135) ∈ G := G_at (i := 500) (by decide +kernel) rfl
set_option maxRecDepth 100000 in
theorem ml_Lu_50 : Cond.methodLink "PowerBonds$LineUps" 50 M_Lu_weigh.1 ∈ G := G_at (i := 501) (by decide +kernel) rfl
set_option maxRecDepth 100000 in
theorem ml_Lu_67 : Cond.methodLink "PowerBonds$LineUps" 67 M_Lu_sums.1 ∈ G := G_at (i := 505) (by decide +kernel) rfl
set_option maxRecDepth 100000 in
theorem ml_Lu_54 : Cond.methodLink "PowerBonds$LineUps" 54 M_Lu_nextWithout.1 ∈ G := G_at (i := 509) (by decide +kernel) rfl
set_option maxRecDepth 100000 in
theorem kc_Pb_165 : Cond.constant "PowerBonds" 165 (-1000000007) ∈ G := G_at (i := 513) (by decide +kernel) rfl
set_option maxRecDepth 100000 in
theorem ml_Pb_145 : Cond.methodLink "PowerBonds" 145 M_Pb_carriedBy.1 ∈ G := G_at (i := 514) (by decide +kernel) rfl
set_option maxRecDepth 100000 in
theorem ml_Pb_153 : Cond.methodLink "PowerBonds" 153 M_An_solve.1 ∈ G := G_at (i := 518) (by decide +kernel) rfl
set_option maxRecDepth 100000 in
theorem ml_An_23 : Cond.methodLink "PowerBonds$Answer" 23 M_Ma_isWhole.1 ∈ G := G_at (i := 522) (by decide +kernel) rfl
set_option maxRecDepth 100000 in
theorem kc_An_29 : Cond.constant "PowerBonds$Answer" 29 (-1000000002) ∈ G := G_at (i := 523) (by decide +kernel) rfl
set_option maxRecDepth 100000 in
theorem ml_An_30 : Cond.methodLink "PowerBonds$Answer" 30 M_An_writeLaws.1 ∈ G := G_at (i := 524) (by decide +kernel) rfl
set_option maxRecDepth 100000 in
theorem ml_An_60 : Cond.methodLink "PowerBonds$Answer" 60 M_Ma_nextBondOf.1 ∈ G := G_at (i := 528) (by decide +kernel) rfl
set_option maxRecDepth 100000 in
theorem ml_An_68 : Cond.methodLink "PowerBonds$Answer" 68 M_An_writeTurn.1 ∈ G := G_at (i := 532) (by decide +kernel) rfl
set_option maxRecDepth 100000 in
theorem ml_An_94 : Cond.methodLink "PowerBonds$Answer" 94 M_Pa_shareWorth.1 ∈ G := G_at (i := 536) (by decide +kernel) rfl
set_option maxRecDepth 100000 in
theorem ml_An_49 : Cond.methodLink "PowerBonds$Answer" 49 M_An_column.1 ∈ G := G_at (i := 537) (by decide +kernel) rfl
set_option maxRecDepth 100000 in
theorem ml_An_97 : Cond.methodLink "PowerBonds$Answer" 97 M_An_writeTimes.1 ∈ G := G_at (i := 540) (by decide +kernel) rfl
set_option maxRecDepth 100000 in
theorem ml_An_86 : Cond.methodLink "PowerBonds$Answer" 86 M_An_newRow.1 ∈ G := G_at (i := 544) (by decide +kernel) rfl
set_option maxRecDepth 100000 in
theorem ml_An_80 : Cond.methodLink "PowerBonds$Answer" 80 M_Ja_fillJ.1 ∈ G := G_at (i := 548) (by decide +kernel) rfl
set_option maxRecDepth 100000 in
theorem kc_An_90 : Cond.constant "PowerBonds$Answer" 90 (1000003) ∈ G := G_at (i := 551) (by decide +kernel) rfl
set_option maxRecDepth 100000 in
theorem ml_An_72 : Cond.methodLink "PowerBonds$Answer" 72 M_An_writeJoin.1 ∈ G := G_at (i := 552) (by decide +kernel) rfl
set_option maxRecDepth 100000 in
theorem kl_An_114 : Cond.constantLong "PowerBonds$Answer" 114 (1000002) ∈ G := G_at (i := 556) (by decide +kernel) rfl
set_option maxRecDepth 100000 in
theorem ml_An_76 : Cond.methodLink "PowerBonds$Answer" 76 M_An_writeEnd.1 ∈ G := G_at (i := 557) (by decide +kernel) rfl
set_option maxRecDepth 100000 in
theorem mn_An_104 : Cond.methodLinkNest "PowerBonds$Answer" 104 M_Pb_product.1 "PowerBonds" ∈ Gn := Gn_at (i := 561) (by decide +kernel) rfl
set_option maxRecDepth 100000 in
theorem ml_An_34 : Cond.methodLink "PowerBonds$Answer" 34 M_An_reduce.1 ∈ G := G_at (i := 562) (by decide +kernel) rfl
set_option maxRecDepth 100000 in
theorem ml_An_116 : Cond.methodLink "PowerBonds$Answer" 116 M_An_rowWith.1 ∈ G := G_at (i := 566) (by decide +kernel) rfl
set_option maxRecDepth 100000 in
theorem ml_An_119 : Cond.methodLink "PowerBonds$Answer" 119 M_An_scale.1 ∈ G := G_at (i := 570) (by decide +kernel) rfl
set_option maxRecDepth 100000 in
theorem mn_An_127 : Cond.methodLinkNest "PowerBonds$Answer" 127 M_Pb_inverse.1 "PowerBonds" ∈ Gn := Gn_at (i := 574) (by decide +kernel) rfl
set_option maxRecDepth 100000 in
theorem kl_An_131 : Cond.constantLong "PowerBonds$Answer" 131 (1000003) ∈ G := G_at (i := 575) (by decide +kernel) rfl
set_option maxRecDepth 100000 in
theorem ml_An_123 : Cond.methodLink "PowerBonds$Answer" 123 M_An_clearOthers.1 ∈ G := G_at (i := 576) (by decide +kernel) rfl
set_option maxRecDepth 100000 in
theorem kc_An_45 : Cond.constant "PowerBonds$Answer" 45 (-1000000006) ∈ G := G_at (i := 580) (by decide +kernel) rfl
set_option maxRecDepth 100000 in
theorem ml_Pb_257 : Cond.methodLink "PowerBonds" 257 M_Pb_product.1 ∈ G := G_at (i := 581) (by decide +kernel) rfl
set_option maxRecDepth 100000 in
theorem ml_Lw_44 : Cond.methodLink "PowerBondsLaw" 44 M_Pb_whole.1 ∈ G := G_at (i := 582) (by decide +kernel) rfl
set_option maxRecDepth 100000 in
theorem ml_Lw_49 : Cond.methodLink "PowerBondsLaw" 49 M_Pb_answers.1 ∈ G := G_at (i := 586) (by decide +kernel) rfl
set_option maxRecDepth 100000 in
theorem ml_Lw_53 : Cond.methodLink "PowerBondsLaw" 53 M_Pb_strokes.1 ∈ G := G_at (i := 590) (by decide +kernel) rfl
set_option maxRecDepth 100000 in
theorem ml_Pb_172 : Cond.methodLink "PowerBonds" 172 M_Lu_tiedStores.1 ∈ G := G_at (i := 594) (by decide +kernel) rfl
set_option maxRecDepth 100000 in
theorem ml_Lw_57 : Cond.methodLink "PowerBondsLaw" 57 M_Pb_can.1 ∈ G := G_at (i := 598) (by decide +kernel) rfl
set_option maxRecDepth 100000 in
theorem ml_Pb_175 : Cond.methodLink "PowerBonds" 175 M_Lu_lookAt.1 ∈ G := G_at (i := 602) (by decide +kernel) rfl
set_option maxRecDepth 100000 in
theorem ml_Pb_178 : Cond.methodLink "PowerBonds" 178 M_Lu_firstAgainst.1 ∈ G := G_at (i := 603) (by decide +kernel) rfl
set_option maxRecDepth 100000 in
theorem ml_Lw_61 : Cond.methodLink "PowerBondsLaw" 61 M_Pb_run.1 ∈ G := G_at (i := 604) (by decide +kernel) rfl
set_option maxRecDepth 100000 in
theorem ml_Pb_185 : Cond.methodLink "PowerBonds" 185 M_Ma_takeFrom.1 ∈ G := G_at (i := 608) (by decide +kernel) rfl
set_option maxRecDepth 100000 in
theorem ml_Ma_35 : Cond.methodLink "PowerBonds$Machine" 35 M_Pa_takeFrom.1 ∈ G := G_at (i := 612) (by decide +kernel) rfl
set_option maxRecDepth 100000 in
theorem ml_Pb_188 : Cond.methodLink "PowerBonds" 188 M_Ma_doStep.1 ∈ G := G_at (i := 616) (by decide +kernel) rfl
set_option maxRecDepth 100000 in
theorem ml_Ma_86 : Cond.methodLink "PowerBonds$Machine" 86 M_Ma_nextBondOf.1 ∈ G := G_at (i := 620) (by decide +kernel) rfl
set_option maxRecDepth 100000 in
theorem mn_Ma_62 : Cond.methodLinkNest "PowerBonds$Machine" 62 M_Pb_worthOf.1 "PowerBonds" ∈ Gn := Gn_at (i := 621) (by decide +kernel) rfl
set_option maxRecDepth 100000 in
theorem ml_Ma_100 : Cond.methodLink "PowerBonds$Machine" 100 M_Ma_followText.1 ∈ G := G_at (i := 622) (by decide +kernel) rfl
set_option maxRecDepth 100000 in
theorem ml_Ma_75 : Cond.methodLink "PowerBonds$Machine" 75 M_Ma_textFor.1 ∈ G := G_at (i := 626) (by decide +kernel) rfl
set_option maxRecDepth 100000 in
theorem ml_Ma_79 : Cond.methodLink "PowerBonds$Machine" 79 M_Ma_hasPart.1 ∈ G := G_at (i := 630) (by decide +kernel) rfl
set_option maxRecDepth 100000 in
theorem ml_Ma_82 : Cond.methodLink "PowerBonds$Machine" 82 M_Ma_textGives.1 ∈ G := G_at (i := 631) (by decide +kernel) rfl
set_option maxRecDepth 100000 in
theorem ml_Ma_71 : Cond.methodLink "PowerBonds$Machine" 71 M_Tx_workOut.1 ∈ G := G_at (i := 635) (by decide +kernel) rfl
set_option maxRecDepth 100000 in
theorem ml_Tx_23 : Cond.methodLink "PowerBonds$Text" 23 M_Tx_truth.1 ∈ G := G_at (i := 639) (by decide +kernel) rfl
set_option maxRecDepth 100000 in
theorem ml_Tx_27 : Cond.methodLink "PowerBonds$Text" 27 M_Tx_isOperand.1 ∈ G := G_at (i := 642) (by decide +kernel) rfl
set_option maxRecDepth 100000 in
theorem ml_Tx_31 : Cond.methodLink "PowerBonds$Text" 31 M_Tx_valueOf.1 ∈ G := G_at (i := 645) (by decide +kernel) rfl
set_option maxRecDepth 100000 in
theorem ml_Tx_35 : Cond.methodLink "PowerBonds$Text" 35 M_Tx_join.1 ∈ G := G_at (i := 648) (by decide +kernel) rfl
set_option maxRecDepth 100000 in
theorem ml_Lw_65 : Cond.methodLink "PowerBondsLaw" 65 M_Pb_feed.1 ∈ G := G_at (i := 651) (by decide +kernel) rfl
set_option maxRecDepth 100000 in
theorem ml_Pb_195 : Cond.methodLink "PowerBonds" 195 M_Ta_putBytes.1 ∈ G := G_at (i := 655) (by decide +kernel) rfl
set_option maxRecDepth 100000 in
theorem ml_Lw_69 : Cond.methodLink "PowerBondsLaw" 69 M_Pb_trim.1 ∈ G := G_at (i := 659) (by decide +kernel) rfl
set_option maxRecDepth 100000 in
theorem ml_Lw_73 : Cond.methodLink "PowerBondsLaw" 73 M_Pb_text.1 ∈ G := G_at (i := 663) (by decide +kernel) rfl
set_option maxRecDepth 100000 in
theorem ml_Pb_198 : Cond.methodLink "PowerBonds" 198 M_Ta_parse.1 ∈ G := G_at (i := 667) (by decide +kernel) rfl
set_option maxRecDepth 100000 in
theorem ml_Ta_35 : Cond.methodLink "PowerBonds$Tape" 35 M_Ta_goOn.1 ∈ G := G_at (i := 671) (by decide +kernel) rfl
set_option maxRecDepth 100000 in
theorem ml_Ta_66 : Cond.methodLink "PowerBonds$Tape" 66 M_Ta_sortAt.1 ∈ G := G_at (i := 675) (by decide +kernel) rfl
set_option maxRecDepth 100000 in
theorem ml_Ta_38 : Cond.methodLink "PowerBonds$Tape" 38 M_Ta_keyHere.1 ∈ G := G_at (i := 679) (by decide +kernel) rfl
set_option maxRecDepth 100000 in
theorem ml_Ta_72 : Cond.methodLink "PowerBonds$Tape" 72 M_Ta_isWord.1 ∈ G := G_at (i := 684) (by decide +kernel) rfl
set_option maxRecDepth 100000 in
theorem ml_Ta_78 : Cond.methodLink "PowerBonds$Tape" 78 M_Js_length.1 ∈ G := G_at (i := 688) (by decide +kernel) rfl
set_option maxRecDepth 100000 in
theorem ml_Js_335 : Cond.methodLink "java/lang/String" 335 M_Js_coder.1 ∈ G := G_at (i := 692) (by decide +kernel) rfl
set_option maxRecDepth 100000 in
theorem fx_Js_38 : Cond.fieldLink "java/lang/String" 38 "java/lang/String" "COMPACT_STRINGS" "Z" ∈ G := G_at (i := 696) (by decide +kernel) rfl
set_option maxRecDepth 100000 in
theorem ml_Ta_83 : Cond.methodLink "PowerBonds$Tape" 83 M_Js_charAt.1 ∈ G := G_at (i := 698) (by decide +kernel) rfl
set_option maxRecDepth 100000 in
theorem ml_Js_492 : Cond.methodLink "java/lang/String" 492 M_Js_isLatin1.1 ∈ G := G_at (i := 702) (by decide +kernel) rfl
set_option maxRecDepth 100000 in
theorem ml_Js_495 : Cond.methodLink "java/lang/String" 495 M_Jl_charAt.1 ∈ G := G_at (i := 706) (by decide +kernel) rfl
set_option maxRecDepth 100000 in
theorem ml_Jl_9 : Cond.methodLink "java/lang/StringLatin1" 9 M_Js_checkIndex.1 ∈ G := G_at (i := 709) (by decide +kernel) rfl
set_option maxRecDepth 100000 in
theorem fx_Js_1053 : Cond.fieldLink "java/lang/String" 1053 "jdk/internal/util/Preconditions" "SIOOBE_FORMATTER" "Ljava/util/function/BiFunction;" ∈ G := G_at (i := 712) (by decide +kernel) rfl
set_option maxRecDepth 100000 in
theorem ml_Js_1059 : Cond.methodLink "java/lang/String" 1059 M_Jp_checkIndex.1 ∈ G := G_at (i := 714) (by decide +kernel) rfl
set_option maxRecDepth 100000 in
theorem ml_Js_498 : Cond.methodLink "java/lang/String" 498 M_Ju_charAt.1 ∈ G := G_at (i := 717) (by decide +kernel) rfl
set_option maxRecDepth 100000 in
theorem ml_Ju_67 : Cond.methodLink "java/lang/StringUTF16" 67 M_Ju_checkIndex.1 ∈ G := G_at (i := 720) (by decide +kernel) rfl
set_option maxRecDepth 100000 in
theorem ml_Ju_48 : Cond.methodLink "java/lang/StringUTF16" 48 M_Ju_length.1 ∈ G := G_at (i := 723) (by decide +kernel) rfl
set_option maxRecDepth 100000 in
theorem ml_Ju_414 : Cond.methodLink "java/lang/StringUTF16" 414 M_Js_checkIndex.1 ∈ G := G_at (i := 726) (by decide +kernel) rfl
set_option maxRecDepth 100000 in
theorem ml_Ju_71 : Cond.methodLink "java/lang/StringUTF16" 71 M_Ju_getChar.1 ∈ G := G_at (i := 727) (by decide +kernel) rfl
set_option maxRecDepth 100000 in
theorem fx_Ju_44 : Cond.fieldLink "java/lang/StringUTF16" 44 "java/lang/StringUTF16" "$assertionsDisabled" "Z" ∈ G := G_at (i := 730) (by decide +kernel) rfl
set_option maxRecDepth 100000 in
theorem fx_Ju_59 : Cond.fieldLink "java/lang/StringUTF16" 59 "java/lang/StringUTF16" "HI_BYTE_SHIFT" "I" ∈ G := G_at (i := 732) (by decide +kernel) rfl
set_option maxRecDepth 100000 in
theorem fx_Ju_63 : Cond.fieldLink "java/lang/StringUTF16" 63 "java/lang/StringUTF16" "LO_BYTE_SHIFT" "I" ∈ G := G_at (i := 734) (by decide +kernel) rfl
set_option maxRecDepth 100000 in
theorem ml_Ta_45 : Cond.methodLink "PowerBonds$Tape" 45 M_Ta_numberHere.1 ∈ G := G_at (i := 737) (by decide +kernel) rfl
set_option maxRecDepth 100000 in
theorem ml_Ta_48 : Cond.methodLink "PowerBonds$Tape" 48 M_Ta_readLevel.1 ∈ G := G_at (i := 741) (by decide +kernel) rfl
set_option maxRecDepth 100000 in
theorem ml_Ta_91 : Cond.methodLink "PowerBonds$Tape" 91 M_Ta_readPiece.1 ∈ G := G_at (i := 745) (by decide +kernel) rfl
set_option maxRecDepth 100000 in
theorem ml_Ta_87 : Cond.methodLink "PowerBonds$Tape" 87 M_Ta_isSign.1 ∈ G := G_at (i := 749) (by decide +kernel) rfl
set_option maxRecDepth 100000 in
theorem ml_Ta_98 : Cond.methodLink "PowerBonds$Tape" 98 M_Ta_put.1 ∈ G := G_at (i := 753) (by decide +kernel) rfl
set_option maxRecDepth 100000 in
theorem ml_Ta_102 : Cond.methodLink "PowerBonds$Tape" 102 M_Ta_readOperand.1 ∈ G := G_at (i := 757) (by decide +kernel) rfl
set_option maxRecDepth 100000 in
theorem ml_Ta_106 : Cond.methodLink "PowerBonds$Tape" 106 M_Ta_isName.1 ∈ G := G_at (i := 761) (by decide +kernel) rfl
set_option maxRecDepth 100000 in
theorem ml_Ta_95 : Cond.methodLink "PowerBonds$Tape" 95 M_Ta_joinsAt.1 ∈ G := G_at (i := 765) (by decide +kernel) rfl
set_option maxRecDepth 100000 in
theorem cl_Ta_52 : Cond.classLink "PowerBonds$Tape" 52 "PowerBonds$Text" ∈ G := G_at (i := 769) (by decide +kernel) rfl
set_option maxRecDepth 100000 in
theorem in_Tx : Cond.instantiable "PowerBonds$Text" 4 ∈ G := G_at (i := 770) (by decide +kernel) rfl
set_option maxRecDepth 100000 in
theorem ml_Ta_54 : Cond.methodLink "PowerBonds$Tape" 54 M_Ja_copyOf.1 ∈ G := G_at (i := 771) (by decide +kernel) rfl
set_option maxRecDepth 100000 in
theorem cl_Ja_317 : Cond.classLink "java/util/Arrays" 317 "[I" ∈ G := G_at (i := 780) (by decide +kernel) rfl
set_option maxRecDepth 100000 in
theorem ml_Ja_304 : Cond.methodLink "java/util/Arrays" 304 M_Jm_min.1 ∈ G := G_at (i := 781) (by decide +kernel) rfl
set_option maxRecDepth 100000 in
theorem ml_Ja_150 : Cond.methodLink "java/util/Arrays" 150 arraycopyName ∈ G := G_at (i := 784) (by decide +kernel) rfl
set_option maxRecDepth 100000 in
theorem ml_Ta_60 : Cond.methodLink "PowerBonds$Tape" 60 M_Tx_init.1 ∈ G := G_at (i := 787) (by decide +kernel) rfl
set_option maxRecDepth 100000 in
theorem ml_Tx_1 : Cond.methodLink "PowerBonds$Text" 1 Lib.objectInit ∈ G := G_at (i := 790) (by decide +kernel) rfl
set_option maxRecDepth 100000 in
theorem fl_Tx_7 : FL "PowerBonds$Text" 7 7 0 := ⟨⟨by decide, by decide⟩, G_at (i := 791) (by decide +kernel) rfl⟩
set_option maxRecDepth 100000 in
theorem fl_Ma_65 : FL "PowerBonds$Machine" 65 7 0 := ⟨⟨by decide, by decide⟩, G_at (i := 792) (by decide +kernel) rfl⟩
set_option maxRecDepth 100000 in
theorem fl_Pb_212 : FL "PowerBonds" 212 7 0 := ⟨⟨by decide, by decide⟩, G_at (i := 793) (by decide +kernel) rfl⟩
set_option maxRecDepth 100000 in
theorem fl_Tx_13 : FL "PowerBonds$Text" 13 7 1 := ⟨⟨by decide, by decide⟩, G_at (i := 794) (by decide +kernel) rfl⟩
set_option maxRecDepth 100000 in
theorem fl_Ma_68 : FL "PowerBonds$Machine" 68 7 1 := ⟨⟨by decide, by decide⟩, G_at (i := 795) (by decide +kernel) rfl⟩
set_option maxRecDepth 100000 in
theorem fl_Pb_217 : FL "PowerBonds" 217 7 1 := ⟨⟨by decide, by decide⟩, G_at (i := 796) (by decide +kernel) rfl⟩
set_option maxRecDepth 100000 in
theorem fl_Tx_16 : FL "PowerBonds$Text" 16 7 2 := ⟨⟨by decide, by decide⟩, G_at (i := 797) (by decide +kernel) rfl⟩
set_option maxRecDepth 100000 in
theorem fl_Pb_224 : FL "PowerBonds" 224 7 2 := ⟨⟨by decide, by decide⟩, G_at (i := 798) (by decide +kernel) rfl⟩
set_option maxRecDepth 100000 in
theorem fl_Tx_19 : FL "PowerBonds$Text" 19 7 3 := ⟨⟨by decide, by decide⟩, G_at (i := 799) (by decide +kernel) rfl⟩
set_option maxRecDepth 100000 in
theorem ml_Pb_220 : Cond.methodLink "PowerBonds" 220 M_Ma_followText.1 ∈ G := G_at (i := 809) (by decide +kernel) rfl
set_option maxRecDepth 100000 in
theorem ml_Lw_77 : Cond.methodLink "PowerBondsLaw" 77 M_Pb_textTold.1 ∈ G := G_at (i := 810) (by decide +kernel) rfl
set_option maxRecDepth 100000 in
theorem ml_Lw_81 : Cond.methodLink "PowerBondsLaw" 81 M_Pb_why.1 ∈ G := G_at (i := 814) (by decide +kernel) rfl
set_option maxRecDepth 100000 in
theorem ml_Pb_227 : Cond.methodLink "PowerBonds" 227 M_Ma_textFor.1 ∈ G := G_at (i := 818) (by decide +kernel) rfl
set_option maxRecDepth 100000 in
theorem kc_Pb_230 : Cond.constant "PowerBonds" 230 (-1000000005) ∈ G := G_at (i := 819) (by decide +kernel) rfl
set_option maxRecDepth 100000 in
theorem ml_Lw_85 : Cond.methodLink "PowerBondsLaw" 85 M_Pb_read.1 ∈ G := G_at (i := 820) (by decide +kernel) rfl
set_option maxRecDepth 100000 in
theorem ml_Pb_237 : Cond.methodLink "PowerBonds" 237 M_Ma_textGives.1 ∈ G := G_at (i := 824) (by decide +kernel) rfl
set_option maxRecDepth 100000 in
theorem ml_Lw_89 : Cond.methodLink "PowerBondsLaw" 89 M_Pb_moves.1 ∈ G := G_at (i := 825) (by decide +kernel) rfl
set_option maxRecDepth 100000 in
theorem ml_Lw_93 : Cond.methodLink "PowerBondsLaw" 93 M_Pb_signs.1 ∈ G := G_at (i := 829) (by decide +kernel) rfl
set_option maxRecDepth 100000 in
theorem ml_Pb_241 : Cond.methodLink "PowerBonds" 241 M_Pb_signsOf.1 ∈ G := G_at (i := 833) (by decide +kernel) rfl
set_option maxRecDepth 100000 in
theorem ml_Lw_97 : Cond.methodLink "PowerBondsLaw" 97 M_Pb_apart.1 ∈ G := G_at (i := 837) (by decide +kernel) rfl
set_option maxRecDepth 100000 in
theorem ml_Lw_101 : Cond.methodLink "PowerBondsLaw" 101 M_Pb_dual.1 ∈ G := G_at (i := 841) (by decide +kernel) rfl
set_option maxRecDepth 100000 in
theorem ml_Pb_244 : Cond.methodLink "PowerBonds" 244 M_Pa_turnToDual.1 ∈ G := G_at (i := 845) (by decide +kernel) rfl
set_option maxRecDepth 100000 in
theorem ml_Lw_105 : Cond.methodLink "PowerBondsLaw" 105 M_Pb_rings.1 ∈ G := G_at (i := 849) (by decide +kernel) rfl
set_option maxRecDepth 100000 in
theorem ml_Pb_247 : Cond.methodLink "PowerBonds" 247 M_Ma_pieces.1 ∈ G := G_at (i := 853) (by decide +kernel) rfl
set_option maxRecDepth 100000 in
theorem ml_Ma_104 : Cond.methodLink "PowerBonds$Machine" 104 M_Ma_withNeighbours.1 ∈ G := G_at (i := 857) (by decide +kernel) rfl
set_option maxRecDepth 100000 in
theorem ml_Lw_109 : Cond.methodLink "PowerBondsLaw" 109 M_Pb_way.1 ∈ G := G_at (i := 861) (by decide +kernel) rfl
set_option maxRecDepth 100000 in
theorem ml_Pb_250 : Cond.methodLink "PowerBonds" 250 M_Ma_withNeighbours.1 ∈ G := G_at (i := 865) (by decide +kernel) rfl
set_option maxRecDepth 100000 in
theorem ml_Lw_113 : Cond.methodLink "PowerBondsLaw" 113 M_Pb_worth.1 ∈ G := G_at (i := 866) (by decide +kernel) rfl
set_option maxRecDepth 100000 in
theorem ml_Pb_253 : Cond.methodLink "PowerBonds" 253 M_Pb_inverse.1 ∈ G := G_at (i := 870) (by decide +kernel) rfl
set_option maxRecDepth 100000 in
theorem ml_Lw_117 : Cond.methodLink "PowerBondsLaw" 117 M_Pb_sheet.1 ∈ G := G_at (i := 871) (by decide +kernel) rfl
set_option maxRecDepth 100000 in
theorem ml_Pb_261 : Cond.methodLink "PowerBonds" 261 M_Pb_isSheet.1 ∈ G := G_at (i := 875) (by decide +kernel) rfl
set_option maxRecDepth 100000 in
theorem kc_Pb_264 : Cond.constant "PowerBonds" 264 (-1000000014) ∈ G := G_at (i := 878) (by decide +kernel) rfl
set_option maxRecDepth 100000 in
theorem ml_Pb_265 : Cond.methodLink "PowerBonds" 265 M_Sh_become.1 ∈ G := G_at (i := 879) (by decide +kernel) rfl
set_option maxRecDepth 100000 in
theorem ml_Sh_22 : Cond.methodLink "PowerBonds$Sheet" 22 M_Ja_fill.1 ∈ G := G_at (i := 883) (by decide +kernel) rfl
set_option maxRecDepth 100000 in
theorem ml_Lw_121 : Cond.methodLink "PowerBondsLaw" 121 M_Pb_mark.1 ∈ G := G_at (i := 886) (by decide +kernel) rfl
set_option maxRecDepth 100000 in
theorem kc_Pb_269 : Cond.constant "PowerBonds" 269 (-1000000011) ∈ G := G_at (i := 890) (by decide +kernel) rfl
set_option maxRecDepth 100000 in
theorem ml_Pb_270 : Cond.methodLink "PowerBonds" 270 M_Sh_hasPlace.1 ∈ G := G_at (i := 891) (by decide +kernel) rfl
set_option maxRecDepth 100000 in
theorem kc_Pb_273 : Cond.constant "PowerBonds" 273 (-1000000013) ∈ G := G_at (i := 895) (by decide +kernel) rfl
set_option maxRecDepth 100000 in
theorem ml_Lw_125 : Cond.methodLink "PowerBondsLaw" 125 M_Pb_pour.1 ∈ G := G_at (i := 896) (by decide +kernel) rfl
set_option maxRecDepth 100000 in
theorem ml_Lw_129 : Cond.methodLink "PowerBondsLaw" 129 M_Pb_copy.1 ∈ G := G_at (i := 900) (by decide +kernel) rfl
set_option maxRecDepth 100000 in
theorem ml_Pb_277 : Cond.methodLink "PowerBonds" 277 M_Sh_hasRow.1 ∈ G := G_at (i := 904) (by decide +kernel) rfl
set_option maxRecDepth 100000 in
theorem ml_Pb_281 : Cond.methodLink "PowerBonds" 281 arraycopyName ∈ G := G_at (i := 908) (by decide +kernel) rfl
set_option maxRecDepth 100000 in
theorem ml_Lw_134 : Cond.methodLink "PowerBondsLaw" 134 M_Pb_lay.1 ∈ G := G_at (i := 909) (by decide +kernel) rfl
set_option maxRecDepth 100000 in
theorem ml_Pb_287 : Cond.methodLink "PowerBonds" 287 M_Pb_isSlot.1 ∈ G := G_at (i := 913) (by decide +kernel) rfl
set_option maxRecDepth 100000 in
theorem ml_Pb_297 : Cond.methodLink "PowerBonds" 297 M_Pa_takeFrom.1 ∈ G := G_at (i := 916) (by decide +kernel) rfl
set_option maxRecDepth 100000 in
theorem ml_Pb_304 : Cond.methodLink "PowerBonds" 304 M_Sh_takeFrom.1 ∈ G := G_at (i := 917) (by decide +kernel) rfl
set_option maxRecDepth 100000 in
theorem ml_Sh_28 : Cond.methodLink "PowerBonds$Sheet" 28 arraycopyName ∈ G := G_at (i := 921) (by decide +kernel) rfl
set_option maxRecDepth 100000 in
theorem ml_Lw_138 : Cond.methodLink "PowerBondsLaw" 138 M_Pb_ask.1 ∈ G := G_at (i := 922) (by decide +kernel) rfl
set_option maxRecDepth 100000 in
theorem ml_Pb_310 : Cond.methodLink "PowerBonds" 310 M_Sl_refusalFor.1 ∈ G := G_at (i := 926) (by decide +kernel) rfl
set_option maxRecDepth 100000 in
theorem kc_Sl_29 : Cond.constant "PowerBonds$Slot" 29 (-1000000011) ∈ G := G_at (i := 930) (by decide +kernel) rfl
set_option maxRecDepth 100000 in
theorem kc_Sl_30 : Cond.constant "PowerBonds$Slot" 30 (-1000000012) ∈ G := G_at (i := 931) (by decide +kernel) rfl
set_option maxRecDepth 100000 in
theorem ml_Lw_142 : Cond.methodLink "PowerBondsLaw" 142 M_Pb_item.1 ∈ G := G_at (i := 932) (by decide +kernel) rfl
set_option maxRecDepth 100000 in
theorem ml_Lw_146 : Cond.methodLink "PowerBondsLaw" 146 M_Pb_rest.1 ∈ G := G_at (i := 936) (by decide +kernel) rfl
set_option maxRecDepth 100000 in
theorem ml_Lw_150 : Cond.methodLink "PowerBondsLaw" 150 M_Pb_tell.1 ∈ G := G_at (i := 940) (by decide +kernel) rfl
set_option maxRecDepth 100000 in
theorem ml_Lw_154 : Cond.methodLink "PowerBondsLaw" 154 M_Pb_check.1 ∈ G := G_at (i := 944) (by decide +kernel) rfl
set_option maxRecDepth 100000 in
theorem ml_Pb_320 : Cond.methodLink "PowerBonds" 320 M_Ma_storesTogether.1 ∈ G := G_at (i := 948) (by decide +kernel) rfl
set_option maxRecDepth 100000 in
theorem ml_Lw_158 : Cond.methodLink "PowerBondsLaw" 158 M_Pb_keep.1 ∈ G := G_at (i := 952) (by decide +kernel) rfl
set_option maxRecDepth 100000 in
theorem ml_Lw_162 : Cond.methodLink "PowerBondsLaw" 162 M_Pb_back.1 ∈ G := G_at (i := 956) (by decide +kernel) rfl
set_option maxRecDepth 100000 in
theorem ml_Lw_166 : Cond.methodLink "PowerBondsLaw" 166 M_Pb_count.1 ∈ G := G_at (i := 960) (by decide +kernel) rfl
set_option maxRecDepth 100000 in
theorem ml_Pb_323 : Cond.methodLink "PowerBonds" 323 M_Ma_stores.1 ∈ G := G_at (i := 964) (by decide +kernel) rfl
set_option maxRecDepth 100000 in
theorem cl_Lw_10 : Cond.classLink "PowerBondsLaw" 10 "PowerBondsModel" ∈ G := G_at (i := 968) (by decide +kernel) rfl
set_option maxRecDepth 100000 in
theorem in_Mo : Cond.instantiable "PowerBondsModel" 35 ∈ G := G_at (i := 969) (by decide +kernel) rfl
set_option maxRecDepth 100000 in
theorem ml_Lw_12 : Cond.methodLink "PowerBondsLaw" 12 M_Mo_init.1 ∈ G := G_at (i := 970) (by decide +kernel) rfl
set_option maxRecDepth 100000 in
theorem ml_Mo_1 : Cond.methodLink "PowerBondsModel" 1 Lib.objectInit ∈ G := G_at (i := 973) (by decide +kernel) rfl
set_option maxRecDepth 100000 in
theorem fl_Mo_7 : FL "PowerBondsModel" 7 9 0 := ⟨⟨by decide, by decide⟩, G_at (i := 974) (by decide +kernel) rfl⟩
set_option maxRecDepth 100000 in
theorem fl_Mo_13 : FL "PowerBondsModel" 13 9 1 := ⟨⟨by decide, by decide⟩, G_at (i := 975) (by decide +kernel) rfl⟩
set_option maxRecDepth 100000 in
theorem fl_Mo_16 : FL "PowerBondsModel" 16 9 2 := ⟨⟨by decide, by decide⟩, G_at (i := 976) (by decide +kernel) rfl⟩
set_option maxRecDepth 100000 in
theorem fl_Mo_348 : FL "PowerBondsModel" 348 9 3 := ⟨⟨by decide, by decide⟩, G_at (i := 977) (by decide +kernel) rfl⟩
set_option maxRecDepth 100000 in
theorem fl_Mo_19 : FL "PowerBondsModel" 19 9 4 := ⟨⟨by decide, by decide⟩, G_at (i := 978) (by decide +kernel) rfl⟩
set_option maxRecDepth 100000 in
theorem fl_Mo_22 : FL "PowerBondsModel" 22 9 5 := ⟨⟨by decide, by decide⟩, G_at (i := 979) (by decide +kernel) rfl⟩
set_option maxRecDepth 100000 in
theorem fl_Mo_25 : FL "PowerBondsModel" 25 9 6 := ⟨⟨by decide, by decide⟩, G_at (i := 980) (by decide +kernel) rfl⟩
set_option maxRecDepth 100000 in
theorem fl_Mo_28 : FL "PowerBondsModel" 28 9 7 := ⟨⟨by decide, by decide⟩, G_at (i := 981) (by decide +kernel) rfl⟩
set_option maxRecDepth 100000 in
theorem fl_Mo_31 : FL "PowerBondsModel" 31 9 8 := ⟨⟨by decide, by decide⟩, G_at (i := 982) (by decide +kernel) rfl⟩
set_option maxRecDepth 100000 in
theorem fl_Mo_34 : FL "PowerBondsModel" 34 9 9 := ⟨⟨by decide, by decide⟩, G_at (i := 983) (by decide +kernel) rfl⟩
set_option maxRecDepth 100000 in
theorem fl_Mo_37 : FL "PowerBondsModel" 37 9 10 := ⟨⟨by decide, by decide⟩, G_at (i := 984) (by decide +kernel) rfl⟩
set_option maxRecDepth 100000 in
theorem fl_Mo_40 : FL "PowerBondsModel" 40 9 11 := ⟨⟨by decide, by decide⟩, G_at (i := 985) (by decide +kernel) rfl⟩
set_option maxRecDepth 100000 in
theorem fl_Mo_43 : FL "PowerBondsModel" 43 9 12 := ⟨⟨by decide, by decide⟩, G_at (i := 986) (by decide +kernel) rfl⟩
set_option maxRecDepth 100000 in
theorem fl_Mo_146 : FL "PowerBondsModel" 146 9 13 := ⟨⟨by decide, by decide⟩, G_at (i := 987) (by decide +kernel) rfl⟩
set_option maxRecDepth 100000 in
theorem fl_Mo_47 : FL "PowerBondsModel" 47 9 14 := ⟨⟨by decide, by decide⟩, G_at (i := 988) (by decide +kernel) rfl⟩
set_option maxRecDepth 100000 in
theorem fl_Mo_50 : FL "PowerBondsModel" 50 9 15 := ⟨⟨by decide, by decide⟩, G_at (i := 989) (by decide +kernel) rfl⟩
set_option maxRecDepth 100000 in
theorem fl_Mo_229 : FL "PowerBondsModel" 229 9 16 := ⟨⟨by decide, by decide⟩, G_at (i := 990) (by decide +kernel) rfl⟩
set_option maxRecDepth 100000 in
theorem fl_Mo_246 : FL "PowerBondsModel" 246 9 17 := ⟨⟨by decide, by decide⟩, G_at (i := 991) (by decide +kernel) rfl⟩
set_option maxRecDepth 100000 in
theorem fl_Mo_240 : FL "PowerBondsModel" 240 9 18 := ⟨⟨by decide, by decide⟩, G_at (i := 992) (by decide +kernel) rfl⟩
set_option maxRecDepth 100000 in
theorem fl_Mo_243 : FL "PowerBondsModel" 243 9 19 := ⟨⟨by decide, by decide⟩, G_at (i := 993) (by decide +kernel) rfl⟩
set_option maxRecDepth 100000 in
theorem fl_Mo_258 : FL "PowerBondsModel" 258 9 20 := ⟨⟨by decide, by decide⟩, G_at (i := 994) (by decide +kernel) rfl⟩
set_option maxRecDepth 100000 in
theorem fl_Mo_252 : FL "PowerBondsModel" 252 9 21 := ⟨⟨by decide, by decide⟩, G_at (i := 995) (by decide +kernel) rfl⟩
set_option maxRecDepth 100000 in
theorem fl_Mo_304 : FL "PowerBondsModel" 304 9 22 := ⟨⟨by decide, by decide⟩, G_at (i := 996) (by decide +kernel) rfl⟩
set_option maxRecDepth 100000 in
theorem fl_Mo_301 : FL "PowerBondsModel" 301 9 23 := ⟨⟨by decide, by decide⟩, G_at (i := 997) (by decide +kernel) rfl⟩
set_option maxRecDepth 100000 in
theorem fl_Mo_271 : FL "PowerBondsModel" 271 9 24 := ⟨⟨by decide, by decide⟩, G_at (i := 998) (by decide +kernel) rfl⟩
set_option maxRecDepth 100000 in
theorem fl_Mo_268 : FL "PowerBondsModel" 268 9 25 := ⟨⟨by decide, by decide⟩, G_at (i := 999) (by decide +kernel) rfl⟩
set_option maxRecDepth 100000 in
theorem fl_Mo_295 : FL "PowerBondsModel" 295 9 26 := ⟨⟨by decide, by decide⟩, G_at (i := 1000) (by decide +kernel) rfl⟩
set_option maxRecDepth 100000 in
theorem fl_Mo_53 : FL "PowerBondsModel" 53 9 27 := ⟨⟨by decide, by decide⟩, G_at (i := 1001) (by decide +kernel) rfl⟩
set_option maxRecDepth 100000 in
theorem fl_Mo_56 : FL "PowerBondsModel" 56 9 28 := ⟨⟨by decide, by decide⟩, G_at (i := 1002) (by decide +kernel) rfl⟩
set_option maxRecDepth 100000 in
theorem fl_Mo_59 : FL "PowerBondsModel" 59 9 29 := ⟨⟨by decide, by decide⟩, G_at (i := 1003) (by decide +kernel) rfl⟩
set_option maxRecDepth 100000 in
theorem fl_Mo_62 : FL "PowerBondsModel" 62 9 30 := ⟨⟨by decide, by decide⟩, G_at (i := 1004) (by decide +kernel) rfl⟩
set_option maxRecDepth 100000 in
theorem fl_Mo_65 : FL "PowerBondsModel" 65 9 31 := ⟨⟨by decide, by decide⟩, G_at (i := 1005) (by decide +kernel) rfl⟩
set_option maxRecDepth 100000 in
theorem fl_Mo_68 : FL "PowerBondsModel" 68 9 32 := ⟨⟨by decide, by decide⟩, G_at (i := 1006) (by decide +kernel) rfl⟩
set_option maxRecDepth 100000 in
theorem fl_Mo_343 : FL "PowerBondsModel" 343 9 33 := ⟨⟨by decide, by decide⟩, G_at (i := 1007) (by decide +kernel) rfl⟩
set_option maxRecDepth 100000 in
theorem fl_Mo_71 : FL "PowerBondsModel" 71 9 34 := ⟨⟨by decide, by decide⟩, G_at (i := 1008) (by decide +kernel) rfl⟩
set_option maxRecDepth 100000 in
theorem ml_Lw_116 : Cond.methodLink "PowerBondsLaw" 116 M_Mo_worth.1 ∈ G := G_at (i := 1080) (by decide +kernel) rfl
set_option maxRecDepth 100000 in
theorem ml_Mo_75 : Cond.methodLink "PowerBondsModel" 75 M_Mo_isIn.1 ∈ G := G_at (i := 1084) (by decide +kernel) rfl
set_option maxRecDepth 100000 in
theorem kc_Mo_89 : Cond.constant "PowerBondsModel" 89 (-1000000001) ∈ G := G_at (i := 1087) (by decide +kernel) rfl
set_option maxRecDepth 100000 in
theorem ml_Mo_90 : Cond.methodLink "PowerBondsModel" 90 M_Mo_worthOf.1 ∈ G := G_at (i := 1088) (by decide +kernel) rfl
set_option maxRecDepth 100000 in
theorem kl_Mo_83 : Cond.constantLong "PowerBondsModel" 83 (1000003) ∈ G := G_at (i := 1091) (by decide +kernel) rfl
set_option maxRecDepth 100000 in
theorem kc_Mo_94 : Cond.constant "PowerBondsModel" 94 (-1000000002) ∈ G := G_at (i := 1092) (by decide +kernel) rfl
set_option maxRecDepth 100000 in
theorem ml_Mo_95 : Cond.methodLink "PowerBondsModel" 95 M_Mo_over.1 ∈ G := G_at (i := 1093) (by decide +kernel) rfl
set_option maxRecDepth 100000 in
theorem kl_Mo_85 : Cond.constantLong "PowerBondsModel" 85 (1000001) ∈ G := G_at (i := 1096) (by decide +kernel) rfl
set_option maxRecDepth 100000 in
theorem kl_Mo_87 : Cond.constantLong "PowerBondsModel" 87 (2) ∈ G := G_at (i := 1097) (by decide +kernel) rfl
set_option maxRecDepth 100000 in
theorem ml_Lw_17 : Cond.methodLink "PowerBondsLaw" 17 M_Mo_part.1 ∈ G := G_at (i := 1098) (by decide +kernel) rfl
set_option maxRecDepth 100000 in
theorem kl_Mo_102 : Cond.constantLong "PowerBondsModel" 102 (5) ∈ G := G_at (i := 1102) (by decide +kernel) rfl
set_option maxRecDepth 100000 in
theorem ml_Mo_104 : Cond.methodLink "PowerBondsModel" 104 M_Mo_isShare.1 ∈ G := G_at (i := 1103) (by decide +kernel) rfl
set_option maxRecDepth 100000 in
theorem kl_Mo_98 : Cond.constantLong "PowerBondsModel" 98 (11) ∈ G := G_at (i := 1106) (by decide +kernel) rfl
set_option maxRecDepth 100000 in
theorem kl_Mo_100 : Cond.constantLong "PowerBondsModel" 100 (99) ∈ G := G_at (i := 1107) (by decide +kernel) rfl
set_option maxRecDepth 100000 in
theorem kc_Mo_108 : Cond.constant "PowerBondsModel" 108 (-1000000003) ∈ G := G_at (i := 1108) (by decide +kernel) rfl
set_option maxRecDepth 100000 in
theorem ml_Mo_79 : Cond.methodLink "PowerBondsModel" 79 M_Mo_partAt.1 ∈ G := G_at (i := 1109) (by decide +kernel) rfl
set_option maxRecDepth 100000 in
theorem ml_Lw_22 : Cond.methodLink "PowerBondsLaw" 22 M_Mo_told.1 ∈ G := G_at (i := 1113) (by decide +kernel) rfl
set_option maxRecDepth 100000 in
theorem ml_Mo_122 : Cond.methodLink "PowerBondsModel" 122 M_Mo_isPart.1 ∈ G := G_at (i := 1117) (by decide +kernel) rfl
set_option maxRecDepth 100000 in
theorem ml_Mo_113 : Cond.methodLink "PowerBondsModel" 113 M_Mo_endsOf.1 ∈ G := G_at (i := 1121) (by decide +kernel) rfl
set_option maxRecDepth 100000 in
theorem ml_Mo_109 : Cond.methodLink "PowerBondsModel" 109 M_Mo_comes.1 ∈ G := G_at (i := 1125) (by decide +kernel) rfl
set_option maxRecDepth 100000 in
theorem ml_Mo_119 : Cond.methodLink "PowerBondsModel" 119 M_Mo_hasEnds.1 ∈ G := G_at (i := 1129) (by decide +kernel) rfl
set_option maxRecDepth 100000 in
theorem ml_Mo_116 : Cond.methodLink "PowerBondsModel" 116 M_Mo_kindOf.1 ∈ G := G_at (i := 1133) (by decide +kernel) rfl
set_option maxRecDepth 100000 in
theorem ml_Mo_125 : Cond.methodLink "PowerBondsModel" 125 M_Mo_shareOf.1 ∈ G := G_at (i := 1137) (by decide +kernel) rfl
set_option maxRecDepth 100000 in
theorem ml_Lw_26 : Cond.methodLink "PowerBondsLaw" 26 M_Mo_as.1 ∈ G := G_at (i := 1140) (by decide +kernel) rfl
set_option maxRecDepth 100000 in
theorem ml_Mo_129 : Cond.methodLink "PowerBondsModel" 129 M_Mo_isOf.1 ∈ G := G_at (i := 1144) (by decide +kernel) rfl
set_option maxRecDepth 100000 in
theorem kc_Mo_133 : Cond.constant "PowerBondsModel" 133 (-1000000012) ∈ G := G_at (i := 1147) (by decide +kernel) rfl
set_option maxRecDepth 100000 in
theorem ml_Lw_30 : Cond.methodLink "PowerBondsLaw" 30 M_Mo_set.1 ∈ G := G_at (i := 1148) (by decide +kernel) rfl
set_option maxRecDepth 100000 in
theorem kl_Mo_134 : Cond.constantLong "PowerBondsModel" 134 (3) ∈ G := G_at (i := 1152) (by decide +kernel) rfl
set_option maxRecDepth 100000 in
theorem ml_Mo_136 : Cond.methodLink "PowerBondsModel" 136 M_Mo_becomes.1 ∈ G := G_at (i := 1153) (by decide +kernel) rfl
set_option maxRecDepth 100000 in
theorem ml_Lw_34 : Cond.methodLink "PowerBondsLaw" 34 M_Mo_bond.1 ∈ G := G_at (i := 1157) (by decide +kernel) rfl
set_option maxRecDepth 100000 in
theorem ml_Lw_39 : Cond.methodLink "PowerBondsLaw" 39 M_Mo_breaks.1 ∈ G := G_at (i := 1161) (by decide +kernel) rfl
set_option maxRecDepth 100000 in
theorem ml_Mo_139 : Cond.methodLink "PowerBondsModel" 139 M_Mo_isBond.1 ∈ G := G_at (i := 1165) (by decide +kernel) rfl
set_option maxRecDepth 100000 in
theorem ml_Lw_48 : Cond.methodLink "PowerBondsLaw" 48 M_Mo_whole.1 ∈ G := G_at (i := 1169) (by decide +kernel) rfl
set_option maxRecDepth 100000 in
theorem ml_Mo_142 : Cond.methodLink "PowerBondsModel" 142 M_Mo_isWhole.1 ∈ G := G_at (i := 1173) (by decide +kernel) rfl
set_option maxRecDepth 100000 in
theorem ml_Lw_52 : Cond.methodLink "PowerBondsLaw" 52 M_Mo_answers.1 ∈ G := G_at (i := 1177) (by decide +kernel) rfl
set_option maxRecDepth 100000 in
theorem ml_Mo_185 : Cond.methodLink "PowerBondsModel" 185 M_Mo_solve.1 ∈ G := G_at (i := 1181) (by decide +kernel) rfl
set_option maxRecDepth 100000 in
theorem ml_Mo_177 : Cond.methodLink "PowerBondsModel" 177 M_Mo_lawsOf.1 ∈ G := G_at (i := 1185) (by decide +kernel) rfl
set_option maxRecDepth 100000 in
theorem ml_Mo_165 : Cond.methodLink "PowerBondsModel" 165 M_Mo_lawsOfTurn.1 ∈ G := G_at (i := 1189) (by decide +kernel) rfl
set_option maxRecDepth 100000 in
theorem ml_Mo_150 : Cond.methodLink "PowerBondsModel" 150 M_Mo_bondOf.1 ∈ G := G_at (i := 1193) (by decide +kernel) rfl
set_option maxRecDepth 100000 in
theorem ml_Mo_153 : Cond.methodLink "PowerBondsModel" 153 M_Mo_sortOf.1 ∈ G := G_at (i := 1197) (by decide +kernel) rfl
set_option maxRecDepth 100000 in
theorem ml_Mo_156 : Cond.methodLink "PowerBondsModel" 156 M_Mo_line.1 ∈ G := G_at (i := 1201) (by decide +kernel) rfl
set_option maxRecDepth 100000 in
theorem ml_Mo_159 : Cond.methodLink "PowerBondsModel" 159 M_Mo_put.1 ∈ G := G_at (i := 1205) (by decide +kernel) rfl
set_option maxRecDepth 100000 in
theorem ml_Mo_169 : Cond.methodLink "PowerBondsModel" 169 M_Mo_lawsOfJoin.1 ∈ G := G_at (i := 1209) (by decide +kernel) rfl
set_option maxRecDepth 100000 in
theorem kl_Mo_163 : Cond.constantLong "PowerBondsModel" 163 (-1) ∈ G := G_at (i := 1213) (by decide +kernel) rfl
set_option maxRecDepth 100000 in
theorem ml_Mo_173 : Cond.methodLink "PowerBondsModel" 173 M_Mo_comesTo.1 ∈ G := G_at (i := 1214) (by decide +kernel) rfl
set_option maxRecDepth 100000 in
theorem ml_Mo_180 : Cond.methodLink "PowerBondsModel" 180 M_Mo_swap.1 ∈ G := G_at (i := 1218) (by decide +kernel) rfl
set_option maxRecDepth 100000 in
theorem kc_Mo_184 : Cond.constant "PowerBondsModel" 184 (-1000000006) ∈ G := G_at (i := 1222) (by decide +kernel) rfl
set_option maxRecDepth 100000 in
theorem ml_Lw_43 : Cond.methodLink "PowerBondsLaw" 43 M_Mo_of.1 ∈ G := G_at (i := 1223) (by decide +kernel) rfl
set_option maxRecDepth 100000 in
theorem ml_Mo_189 : Cond.methodLink "PowerBondsModel" 189 M_Mo_strokes.1 ∈ G := G_at (i := 1227) (by decide +kernel) rfl
set_option maxRecDepth 100000 in
theorem ml_Mo_198 : Cond.methodLink "PowerBondsModel" 198 M_Mo_canBe.1 ∈ G := G_at (i := 1231) (by decide +kernel) rfl
set_option maxRecDepth 100000 in
theorem ml_Mo_192 : Cond.methodLink "PowerBondsModel" 192 M_Mo_settles.1 ∈ G := G_at (i := 1235) (by decide +kernel) rfl
set_option maxRecDepth 100000 in
theorem ml_Mo_201 : Cond.methodLink "PowerBondsModel" 201 M_Mo_summing.1 ∈ G := G_at (i := 1239) (by decide +kernel) rfl
set_option maxRecDepth 100000 in
theorem ml_Mo_195 : Cond.methodLink "PowerBondsModel" 195 M_Mo_sums.1 ∈ G := G_at (i := 1243) (by decide +kernel) rfl
set_option maxRecDepth 100000 in
theorem kc_Mo_204 : Cond.constant "PowerBondsModel" 204 (-1000000007) ∈ G := G_at (i := 1247) (by decide +kernel) rfl
set_option maxRecDepth 100000 in
theorem ml_Mo_205 : Cond.methodLink "PowerBondsModel" 205 M_Mo_tied.1 ∈ G := G_at (i := 1248) (by decide +kernel) rfl
set_option maxRecDepth 100000 in
theorem ml_Lw_56 : Cond.methodLink "PowerBondsLaw" 56 M_Mo_strokes.1 ∈ G := G_at (i := 1252) (by decide +kernel) rfl
set_option maxRecDepth 100000 in
theorem ml_Lw_60 : Cond.methodLink "PowerBondsLaw" 60 M_Mo_can.1 ∈ G := G_at (i := 1253) (by decide +kernel) rfl
set_option maxRecDepth 100000 in
theorem ml_Lw_64 : Cond.methodLink "PowerBondsLaw" 64 M_Mo_run.1 ∈ G := G_at (i := 1257) (by decide +kernel) rfl
set_option maxRecDepth 100000 in
theorem kl_Mo_220 : Cond.constantLong "PowerBondsModel" 220 (60) ∈ G := G_at (i := 1261) (by decide +kernel) rfl
set_option maxRecDepth 100000 in
theorem ml_Mo_222 : Cond.methodLink "PowerBondsModel" 222 M_Mo_setAside.1 ∈ G := G_at (i := 1262) (by decide +kernel) rfl
set_option maxRecDepth 100000 in
theorem ml_Mo_226 : Cond.methodLink "PowerBondsModel" 226 M_Mo_oneStep.1 ∈ G := G_at (i := 1266) (by decide +kernel) rfl
set_option maxRecDepth 100000 in
theorem ml_Mo_217 : Cond.methodLink "PowerBondsModel" 217 M_Mo_gives.1 ∈ G := G_at (i := 1270) (by decide +kernel) rfl
set_option maxRecDepth 100000 in
theorem ml_Mo_211 : Cond.methodLink "PowerBondsModel" 211 M_Mo_counts.1 ∈ G := G_at (i := 1274) (by decide +kernel) rfl
set_option maxRecDepth 100000 in
theorem ml_Mo_208 : Cond.methodLink "PowerBondsModel" 208 M_Mo_textAt.1 ∈ G := G_at (i := 1278) (by decide +kernel) rfl
set_option maxRecDepth 100000 in
theorem ml_Mo_214 : Cond.methodLink "PowerBondsModel" 214 M_Mo_worked.1 ∈ G := G_at (i := 1282) (by decide +kernel) rfl
set_option maxRecDepth 100000 in
theorem ml_Mo_322 : Cond.methodLink "PowerBondsModel" 322 M_Mo_joined.1 ∈ G := G_at (i := 1286) (by decide +kernel) rfl
set_option maxRecDepth 100000 in
theorem ml_Lw_68 : Cond.methodLink "PowerBondsLaw" 68 M_Mo_feed.1 ∈ G := G_at (i := 1289) (by decide +kernel) rfl
set_option maxRecDepth 100000 in
theorem ml_Lw_72 : Cond.methodLink "PowerBondsLaw" 72 M_Mo_trim.1 ∈ G := G_at (i := 1293) (by decide +kernel) rfl
set_option maxRecDepth 100000 in
theorem ml_Lw_76 : Cond.methodLink "PowerBondsLaw" 76 M_Mo_text.1 ∈ G := G_at (i := 1297) (by decide +kernel) rfl
set_option maxRecDepth 100000 in
theorem ml_Mo_313 : Cond.methodLink "PowerBondsModel" 313 M_Mo_parse.1 ∈ G := G_at (i := 1301) (by decide +kernel) rfl
set_option maxRecDepth 100000 in
theorem ml_Mo_265 : Cond.methodLink "PowerBondsModel" 265 M_Mo_next.1 ∈ G := G_at (i := 1305) (by decide +kernel) rfl
set_option maxRecDepth 100000 in
theorem ml_Mo_249 : Cond.methodLink "PowerBondsModel" 249 M_Mo_isLetter.1 ∈ G := G_at (i := 1309) (by decide +kernel) rfl
set_option maxRecDepth 100000 in
theorem kl_Mo_232 : Cond.constantLong "PowerBondsModel" 232 (97) ∈ G := G_at (i := 1313) (by decide +kernel) rfl
set_option maxRecDepth 100000 in
theorem kl_Mo_234 : Cond.constantLong "PowerBondsModel" 234 (122) ∈ G := G_at (i := 1314) (by decide +kernel) rfl
set_option maxRecDepth 100000 in
theorem ml_Mo_255 : Cond.methodLink "PowerBondsModel" 255 M_Mo_isDigit.1 ∈ G := G_at (i := 1315) (by decide +kernel) rfl
set_option maxRecDepth 100000 in
theorem kl_Mo_236 : Cond.constantLong "PowerBondsModel" 236 (48) ∈ G := G_at (i := 1319) (by decide +kernel) rfl
set_option maxRecDepth 100000 in
theorem kl_Mo_238 : Cond.constantLong "PowerBondsModel" 238 (57) ∈ G := G_at (i := 1320) (by decide +kernel) rfl
set_option maxRecDepth 100000 in
theorem ml_Mo_310 : Cond.methodLink "PowerBondsModel" 310 M_Mo_key.1 ∈ G := G_at (i := 1321) (by decide +kernel) rfl
set_option maxRecDepth 100000 in
theorem ml_Mo_261 : Cond.methodLink "PowerBondsModel" 261 M_Mo_isWordAt.1 ∈ G := G_at (i := 1325) (by decide +kernel) rfl
set_option maxRecDepth 100000 in
theorem ml_Mo_307 : Cond.methodLink "PowerBondsModel" 307 M_Mo_either.1 ∈ G := G_at (i := 1329) (by decide +kernel) rfl
set_option maxRecDepth 100000 in
theorem ml_Mo_274 : Cond.methodLink "PowerBondsModel" 274 M_Mo_both.1 ∈ G := G_at (i := 1333) (by decide +kernel) rfl
set_option maxRecDepth 100000 in
theorem ml_Mo_283 : Cond.methodLink "PowerBondsModel" 283 M_Mo_test.1 ∈ G := G_at (i := 1337) (by decide +kernel) rfl
set_option maxRecDepth 100000 in
theorem ml_Mo_286 : Cond.methodLink "PowerBondsModel" 286 M_Mo_sum.1 ∈ G := G_at (i := 1341) (by decide +kernel) rfl
set_option maxRecDepth 100000 in
theorem ml_Mo_289 : Cond.methodLink "PowerBondsModel" 289 M_Mo_term.1 ∈ G := G_at (i := 1345) (by decide +kernel) rfl
set_option maxRecDepth 100000 in
theorem ml_Mo_292 : Cond.methodLink "PowerBondsModel" 292 M_Mo_part0.1 ∈ G := G_at (i := 1349) (by decide +kernel) rfl
set_option maxRecDepth 100000 in
theorem ml_Mo_280 : Cond.methodLink "PowerBondsModel" 280 M_Mo_step.1 ∈ G := G_at (i := 1353) (by decide +kernel) rfl
set_option maxRecDepth 100000 in
theorem ml_Mo_298 : Cond.methodLink "PowerBondsModel" 298 M_Mo_isName.1 ∈ G := G_at (i := 1357) (by decide +kernel) rfl
set_option maxRecDepth 100000 in
theorem ml_Mo_277 : Cond.methodLink "PowerBondsModel" 277 M_Mo_isSign.1 ∈ G := G_at (i := 1360) (by decide +kernel) rfl
set_option maxRecDepth 100000 in
theorem ml_Lw_80 : Cond.methodLink "PowerBondsLaw" 80 M_Mo_textTold.1 ∈ G := G_at (i := 1364) (by decide +kernel) rfl
set_option maxRecDepth 100000 in
theorem ml_Mo_316 : Cond.methodLink "PowerBondsModel" 316 M_Mo_isText.1 ∈ G := G_at (i := 1368) (by decide +kernel) rfl
set_option maxRecDepth 100000 in
theorem ml_Lw_84 : Cond.methodLink "PowerBondsLaw" 84 M_Mo_why.1 ∈ G := G_at (i := 1372) (by decide +kernel) rfl
set_option maxRecDepth 100000 in
theorem ml_Mo_319 : Cond.methodLink "PowerBondsModel" 319 M_Mo_orNone.1 ∈ G := G_at (i := 1376) (by decide +kernel) rfl
set_option maxRecDepth 100000 in
theorem kc_Mo_74 : Cond.constant "PowerBondsModel" 74 (-1000000005) ∈ G := G_at (i := 1379) (by decide +kernel) rfl
set_option maxRecDepth 100000 in
theorem ml_Lw_88 : Cond.methodLink "PowerBondsLaw" 88 M_Mo_read.1 ∈ G := G_at (i := 1380) (by decide +kernel) rfl
set_option maxRecDepth 100000 in
theorem ml_Lw_92 : Cond.methodLink "PowerBondsLaw" 92 M_Mo_moves.1 ∈ G := G_at (i := 1384) (by decide +kernel) rfl
set_option maxRecDepth 100000 in
theorem ml_Lw_96 : Cond.methodLink "PowerBondsLaw" 96 M_Mo_signs.1 ∈ G := G_at (i := 1388) (by decide +kernel) rfl
set_option maxRecDepth 100000 in
theorem ml_Lw_100 : Cond.methodLink "PowerBondsLaw" 100 M_Mo_apart.1 ∈ G := G_at (i := 1392) (by decide +kernel) rfl
set_option maxRecDepth 100000 in
theorem ml_Mo_326 : Cond.methodLink "PowerBondsModel" 326 M_Mo_signs.1 ∈ G := G_at (i := 1396) (by decide +kernel) rfl
set_option maxRecDepth 100000 in
theorem ml_Lw_104 : Cond.methodLink "PowerBondsLaw" 104 M_Mo_dual.1 ∈ G := G_at (i := 1397) (by decide +kernel) rfl
set_option maxRecDepth 100000 in
theorem ml_Lw_108 : Cond.methodLink "PowerBondsLaw" 108 M_Mo_rings.1 ∈ G := G_at (i := 1401) (by decide +kernel) rfl
set_option maxRecDepth 100000 in
theorem ml_Mo_329 : Cond.methodLink "PowerBondsModel" 329 M_Mo_findWays.1 ∈ G := G_at (i := 1405) (by decide +kernel) rfl
set_option maxRecDepth 100000 in
theorem ml_Lw_112 : Cond.methodLink "PowerBondsLaw" 112 M_Mo_way.1 ∈ G := G_at (i := 1409) (by decide +kernel) rfl
set_option maxRecDepth 100000 in
theorem ml_Lw_120 : Cond.methodLink "PowerBondsLaw" 120 M_Mo_sheet.1 ∈ G := G_at (i := 1413) (by decide +kernel) rfl
set_option maxRecDepth 100000 in
theorem ml_Mo_332 : Cond.methodLink "PowerBondsModel" 332 M_Mo_isSheet.1 ∈ G := G_at (i := 1417) (by decide +kernel) rfl
set_option maxRecDepth 100000 in
theorem kc_Mo_335 : Cond.constant "PowerBondsModel" 335 (-1000000014) ∈ G := G_at (i := 1420) (by decide +kernel) rfl
set_option maxRecDepth 100000 in
theorem ml_Lw_124 : Cond.methodLink "PowerBondsLaw" 124 M_Mo_mark.1 ∈ G := G_at (i := 1421) (by decide +kernel) rfl
set_option maxRecDepth 100000 in
theorem kc_Mo_336 : Cond.constant "PowerBondsModel" 336 (-1000000011) ∈ G := G_at (i := 1425) (by decide +kernel) rfl
set_option maxRecDepth 100000 in
theorem kc_Mo_337 : Cond.constant "PowerBondsModel" 337 (-1000000013) ∈ G := G_at (i := 1426) (by decide +kernel) rfl
set_option maxRecDepth 100000 in
theorem ml_Lw_128 : Cond.methodLink "PowerBondsLaw" 128 M_Mo_pour.1 ∈ G := G_at (i := 1427) (by decide +kernel) rfl
set_option maxRecDepth 100000 in
theorem ml_Lw_133 : Cond.methodLink "PowerBondsLaw" 133 M_Mo_copy.1 ∈ G := G_at (i := 1431) (by decide +kernel) rfl
set_option maxRecDepth 100000 in
theorem ml_Lw_137 : Cond.methodLink "PowerBondsLaw" 137 M_Mo_lay.1 ∈ G := G_at (i := 1435) (by decide +kernel) rfl
set_option maxRecDepth 100000 in
theorem ml_Mo_340 : Cond.methodLink "PowerBondsModel" 340 M_Mo_isSlot.1 ∈ G := G_at (i := 1439) (by decide +kernel) rfl
set_option maxRecDepth 100000 in
theorem kl_Mo_338 : Cond.constantLong "PowerBondsModel" 338 (4) ∈ G := G_at (i := 1442) (by decide +kernel) rfl
set_option maxRecDepth 100000 in
theorem ml_Lw_141 : Cond.methodLink "PowerBondsLaw" 141 M_Mo_ask.1 ∈ G := G_at (i := 1443) (by decide +kernel) rfl
set_option maxRecDepth 100000 in
theorem ml_Lw_145 : Cond.methodLink "PowerBondsLaw" 145 M_Mo_item.1 ∈ G := G_at (i := 1447) (by decide +kernel) rfl
set_option maxRecDepth 100000 in
theorem ml_Lw_149 : Cond.methodLink "PowerBondsLaw" 149 M_Mo_rest.1 ∈ G := G_at (i := 1451) (by decide +kernel) rfl
set_option maxRecDepth 100000 in
theorem ml_Lw_153 : Cond.methodLink "PowerBondsLaw" 153 M_Mo_tell.1 ∈ G := G_at (i := 1455) (by decide +kernel) rfl
set_option maxRecDepth 100000 in
theorem ml_Lw_157 : Cond.methodLink "PowerBondsLaw" 157 M_Mo_check.1 ∈ G := G_at (i := 1459) (by decide +kernel) rfl
set_option maxRecDepth 100000 in
theorem kl_Mo_346 : Cond.constantLong "PowerBondsModel" 346 (30) ∈ G := G_at (i := 1463) (by decide +kernel) rfl
set_option maxRecDepth 100000 in
theorem ml_Mo_352 : Cond.methodLink "PowerBondsModel" 352 M_Mo_holds.1 ∈ G := G_at (i := 1464) (by decide +kernel) rfl
set_option maxRecDepth 100000 in
theorem ml_Lw_161 : Cond.methodLink "PowerBondsLaw" 161 M_Mo_keep.1 ∈ G := G_at (i := 1468) (by decide +kernel) rfl
set_option maxRecDepth 100000 in
theorem ml_Lw_165 : Cond.methodLink "PowerBondsLaw" 165 M_Mo_back.1 ∈ G := G_at (i := 1472) (by decide +kernel) rfl
set_option maxRecDepth 100000 in
theorem ml_Lw_169 : Cond.methodLink "PowerBondsLaw" 169 M_Mo_count.1 ∈ G := G_at (i := 1476) (by decide +kernel) rfl
set_option maxRecDepth 100000 in
theorem ml_Mo_355 : Cond.methodLink "PowerBondsModel" 355 M_Mo_stores.1 ∈ G := G_at (i := 1480) (by decide +kernel) rfl
set_option maxRecDepth 100000 in
theorem fx_Js_9 : Cond.fieldLink "java/lang/String" 9 "java/lang/String" "value" "[B" ∈ G := G_at (i := 1484) (by decide +kernel) rfl
set_option maxRecDepth 100000 in
theorem fx_Js_15 : Cond.fieldLink "java/lang/String" 15 "java/lang/String" "coder" "B" ∈ G := G_at (i := 1485) (by decide +kernel) rfl
set_option maxRecDepth 100000 in
theorem oi_i : Cond.instanceMethod Lib.objectInit ∈ G := G_at (i := 103) (by decide +kernel) rfl
set_option maxRecDepth 100000 in
theorem oi_c : Cond.code Lib.objectInit ⟨#[0xb1]⟩ 1 none ∈ G := G_at (i := 104) (by decide +kernel) rfl
set_option maxRecDepth 100000 in
theorem ay_n : Cond.native arraycopyName ∈ G := G_at (i := 786) (by decide +kernel) rfl
set_option maxRecDepth 100000 in
theorem ay_s : Cond.static arraycopyName ∈ G := G_at (i := 785) (by decide +kernel) rfl
set_option maxRecDepth 100000 in
theorem mf_An_init : MF M_An_init 0 := ⟨G_at (i := 196) (by decide +kernel) rfl, ii_An, by decide +kernel, by decide, by decide +kernel⟩
set_option maxRecDepth 100000 in
theorem mi_An_init : MI M_An_init := ⟨G_at (i := 195) (by decide +kernel) rfl, rfl, rfl⟩
set_option maxRecDepth 100000 in
theorem mf_An_solve : MF M_An_solve 1 := ⟨G_at (i := 521) (by decide +kernel) rfl, ii_An, by decide +kernel, by decide, by decide +kernel⟩
set_option maxRecDepth 100000 in
theorem mv_An_solve : MV M_An_solve := ⟨G_at (i := 519) (by decide +kernel) rfl, G_at (i := 520) (by decide +kernel) rfl⟩
set_option maxRecDepth 100000 in
theorem mf_An_column : MF M_An_column 2 := ⟨G_at (i := 539) (by decide +kernel) rfl, ii_An, by decide +kernel, by decide, by decide +kernel⟩
set_option maxRecDepth 100000 in
theorem ms_An_column : MS M_An_column := G_at (i := 538) (by decide +kernel) rfl
set_option maxRecDepth 100000 in
theorem mf_An_writeLaws : MF M_An_writeLaws 1 := ⟨G_at (i := 527) (by decide +kernel) rfl, ii_An, by decide +kernel, by decide, by decide +kernel⟩
set_option maxRecDepth 100000 in
theorem mv_An_writeLaws : MV M_An_writeLaws := ⟨G_at (i := 526) (by decide +kernel) rfl, G_at (i := 7) (by decide +kernel) rfl⟩
set_option maxRecDepth 100000 in
theorem mf_An_newRow : MF M_An_newRow 0 := ⟨G_at (i := 547) (by decide +kernel) rfl, ii_An, by decide +kernel, by decide, by decide +kernel⟩
set_option maxRecDepth 100000 in
theorem mv_An_newRow : MV M_An_newRow := ⟨G_at (i := 546) (by decide +kernel) rfl, G_at (i := 10) (by decide +kernel) rfl⟩
set_option maxRecDepth 100000 in
theorem mf_An_writeTimes : MF M_An_writeTimes 3 := ⟨G_at (i := 543) (by decide +kernel) rfl, ii_An, by decide +kernel, by decide, by decide +kernel⟩
set_option maxRecDepth 100000 in
theorem mv_An_writeTimes : MV M_An_writeTimes := ⟨G_at (i := 542) (by decide +kernel) rfl, G_at (i := 9) (by decide +kernel) rfl⟩
set_option maxRecDepth 100000 in
theorem mf_An_writeEnd : MF M_An_writeEnd 2 := ⟨G_at (i := 560) (by decide +kernel) rfl, ii_An, by decide +kernel, by decide, by decide +kernel⟩
set_option maxRecDepth 100000 in
theorem mv_An_writeEnd : MV M_An_writeEnd := ⟨G_at (i := 559) (by decide +kernel) rfl, G_at (i := 12) (by decide +kernel) rfl⟩
set_option maxRecDepth 100000 in
theorem mf_An_writeTurn : MF M_An_writeTurn 3 := ⟨G_at (i := 535) (by decide +kernel) rfl, ii_An, by decide +kernel, by decide, by decide +kernel⟩
set_option maxRecDepth 100000 in
theorem mv_An_writeTurn : MV M_An_writeTurn := ⟨G_at (i := 534) (by decide +kernel) rfl, G_at (i := 8) (by decide +kernel) rfl⟩
set_option maxRecDepth 100000 in
theorem mf_An_writeJoin : MF M_An_writeJoin 3 := ⟨G_at (i := 555) (by decide +kernel) rfl, ii_An, by decide +kernel, by decide, by decide +kernel⟩
set_option maxRecDepth 100000 in
theorem mv_An_writeJoin : MV M_An_writeJoin := ⟨G_at (i := 554) (by decide +kernel) rfl, G_at (i := 11) (by decide +kernel) rfl⟩
set_option maxRecDepth 100000 in
theorem mf_An_reduce : MF M_An_reduce 0 := ⟨G_at (i := 565) (by decide +kernel) rfl, ii_An, by decide +kernel, by decide, by decide +kernel⟩
set_option maxRecDepth 100000 in
theorem mv_An_reduce : MV M_An_reduce := ⟨G_at (i := 564) (by decide +kernel) rfl, G_at (i := 13) (by decide +kernel) rfl⟩
set_option maxRecDepth 100000 in
theorem mf_An_rowWith : MF M_An_rowWith 2 := ⟨G_at (i := 569) (by decide +kernel) rfl, ii_An, by decide +kernel, by decide, by decide +kernel⟩
set_option maxRecDepth 100000 in
theorem mv_An_rowWith : MV M_An_rowWith := ⟨G_at (i := 568) (by decide +kernel) rfl, G_at (i := 14) (by decide +kernel) rfl⟩
set_option maxRecDepth 100000 in
theorem mf_An_scale : MF M_An_scale 2 := ⟨G_at (i := 573) (by decide +kernel) rfl, ii_An, by decide +kernel, by decide, by decide +kernel⟩
set_option maxRecDepth 100000 in
theorem mv_An_scale : MV M_An_scale := ⟨G_at (i := 572) (by decide +kernel) rfl, G_at (i := 15) (by decide +kernel) rfl⟩
set_option maxRecDepth 100000 in
theorem mf_An_clearOthers : MF M_An_clearOthers 2 := ⟨G_at (i := 579) (by decide +kernel) rfl, ii_An, by decide +kernel, by decide, by decide +kernel⟩
set_option maxRecDepth 100000 in
theorem mv_An_clearOthers : MV M_An_clearOthers := ⟨G_at (i := 578) (by decide +kernel) rfl, G_at (i := 16) (by decide +kernel) rfl⟩
set_option maxRecDepth 100000 in
theorem mf_Lu_init : MF M_Lu_init 0 := ⟨G_at (i := 225) (by decide +kernel) rfl, ii_Lu, by decide +kernel, by decide, by decide +kernel⟩
set_option maxRecDepth 100000 in
theorem mi_Lu_init : MI M_Lu_init := ⟨G_at (i := 224) (by decide +kernel) rfl, rfl, rfl⟩
set_option maxRecDepth 100000 in
theorem mf_Lu_lookAt : MF M_Lu_lookAt 1 := ⟨G_at (i := 482) (by decide +kernel) rfl, ii_Lu, by decide +kernel, by decide, by decide +kernel⟩
set_option maxRecDepth 100000 in
theorem mv_Lu_lookAt : MV M_Lu_lookAt := ⟨G_at (i := 480) (by decide +kernel) rfl, G_at (i := 481) (by decide +kernel) rfl⟩
set_option maxRecDepth 100000 in
theorem mf_Lu_survey : MF M_Lu_survey 1 := ⟨G_at (i := 478) (by decide +kernel) rfl, ii_Lu, by decide +kernel, by decide, by decide +kernel⟩
set_option maxRecDepth 100000 in
theorem mv_Lu_survey : MV M_Lu_survey := ⟨G_at (i := 476) (by decide +kernel) rfl, G_at (i := 477) (by decide +kernel) rfl⟩
set_option maxRecDepth 100000 in
theorem mf_Lu_weigh : MF M_Lu_weigh 2 := ⟨G_at (i := 504) (by decide +kernel) rfl, ii_Lu, by decide +kernel, by decide, by decide +kernel⟩
set_option maxRecDepth 100000 in
theorem mv_Lu_weigh : MV M_Lu_weigh := ⟨G_at (i := 503) (by decide +kernel) rfl, G_at (i := 3) (by decide +kernel) rfl⟩
set_option maxRecDepth 100000 in
theorem mf_Lu_nextWithout : MF M_Lu_nextWithout 2 := ⟨G_at (i := 512) (by decide +kernel) rfl, ii_Lu, by decide +kernel, by decide, by decide +kernel⟩
set_option maxRecDepth 100000 in
theorem mv_Lu_nextWithout : MV M_Lu_nextWithout := ⟨G_at (i := 511) (by decide +kernel) rfl, G_at (i := 5) (by decide +kernel) rfl⟩
set_option maxRecDepth 100000 in
theorem mf_Lu_firstAgainst : MF M_Lu_firstAgainst 2 := ⟨G_at (i := 486) (by decide +kernel) rfl, ii_Lu, by decide +kernel, by decide, by decide +kernel⟩
set_option maxRecDepth 100000 in
theorem mv_Lu_firstAgainst : MV M_Lu_firstAgainst := ⟨G_at (i := 484) (by decide +kernel) rfl, G_at (i := 485) (by decide +kernel) rfl⟩
set_option maxRecDepth 100000 in
theorem mf_Lu_allows : MF M_Lu_allows 3 := ⟨G_at (i := 490) (by decide +kernel) rfl, ii_Lu, by decide +kernel, by decide, by decide +kernel⟩
set_option maxRecDepth 100000 in
theorem mv_Lu_allows : MV M_Lu_allows := ⟨G_at (i := 489) (by decide +kernel) rfl, G_at (i := 1) (by decide +kernel) rfl⟩
set_option maxRecDepth 100000 in
theorem mf_Lu_settledBy : MF M_Lu_settledBy 2 := ⟨G_at (i := 494) (by decide +kernel) rfl, ii_Lu, by decide +kernel, by decide, by decide +kernel⟩
set_option maxRecDepth 100000 in
theorem mv_Lu_settledBy : MV M_Lu_settledBy := ⟨G_at (i := 493) (by decide +kernel) rfl, G_at (i := 2) (by decide +kernel) rfl⟩
set_option maxRecDepth 100000 in
theorem mf_Lu_sums : MF M_Lu_sums 3 := ⟨G_at (i := 508) (by decide +kernel) rfl, ii_Lu, by decide +kernel, by decide, by decide +kernel⟩
set_option maxRecDepth 100000 in
theorem mv_Lu_sums : MV M_Lu_sums := ⟨G_at (i := 507) (by decide +kernel) rfl, G_at (i := 4) (by decide +kernel) rfl⟩
set_option maxRecDepth 100000 in
theorem mf_Lu_tiedStores : MF M_Lu_tiedStores 1 := ⟨G_at (i := 597) (by decide +kernel) rfl, ii_Lu, by decide +kernel, by decide, by decide +kernel⟩
set_option maxRecDepth 100000 in
theorem mv_Lu_tiedStores : MV M_Lu_tiedStores := ⟨G_at (i := 595) (by decide +kernel) rfl, G_at (i := 596) (by decide +kernel) rfl⟩
set_option maxRecDepth 100000 in
theorem mf_Ma_init : MF M_Ma_init 0 := ⟨G_at (i := 109) (by decide +kernel) rfl, ii_Ma, by decide +kernel, by decide, by decide +kernel⟩
set_option maxRecDepth 100000 in
theorem mi_Ma_init : MI M_Ma_init := ⟨G_at (i := 108) (by decide +kernel) rfl, rfl, rfl⟩
set_option maxRecDepth 100000 in
theorem mf_Ma_takeFrom : MF M_Ma_takeFrom 1 := ⟨G_at (i := 611) (by decide +kernel) rfl, ii_Ma, by decide +kernel, by decide, by decide +kernel⟩
set_option maxRecDepth 100000 in
theorem mv_Ma_takeFrom : MV M_Ma_takeFrom := ⟨G_at (i := 609) (by decide +kernel) rfl, G_at (i := 610) (by decide +kernel) rfl⟩
set_option maxRecDepth 100000 in
theorem mf_Ma_hasPart : MF M_Ma_hasPart 1 := ⟨G_at (i := 396) (by decide +kernel) rfl, ii_Ma, by decide +kernel, by decide, by decide +kernel⟩
set_option maxRecDepth 100000 in
theorem mv_Ma_hasPart : MV M_Ma_hasPart := ⟨G_at (i := 394) (by decide +kernel) rfl, G_at (i := 395) (by decide +kernel) rfl⟩
set_option maxRecDepth 100000 in
theorem mf_Ma_hasBond : MF M_Ma_hasBond 1 := ⟨G_at (i := 455) (by decide +kernel) rfl, ii_Ma, by decide +kernel, by decide, by decide +kernel⟩
set_option maxRecDepth 100000 in
theorem mv_Ma_hasBond : MV M_Ma_hasBond := ⟨G_at (i := 453) (by decide +kernel) rfl, G_at (i := 454) (by decide +kernel) rfl⟩
set_option maxRecDepth 100000 in
theorem mf_Ma_dropBond : MF M_Ma_dropBond 1 := ⟨G_at (i := 459) (by decide +kernel) rfl, ii_Ma, by decide +kernel, by decide, by decide +kernel⟩
set_option maxRecDepth 100000 in
theorem mv_Ma_dropBond : MV M_Ma_dropBond := ⟨G_at (i := 457) (by decide +kernel) rfl, G_at (i := 458) (by decide +kernel) rfl⟩
set_option maxRecDepth 100000 in
theorem mf_Ma_endsOf : MF M_Ma_endsOf 1 := ⟨G_at (i := 404) (by decide +kernel) rfl, ii_Ma, by decide +kernel, by decide, by decide +kernel⟩
set_option maxRecDepth 100000 in
theorem mv_Ma_endsOf : MV M_Ma_endsOf := ⟨G_at (i := 402) (by decide +kernel) rfl, G_at (i := 403) (by decide +kernel) rfl⟩
set_option maxRecDepth 100000 in
theorem mf_Ma_nextBondOf : MF M_Ma_nextBondOf 2 := ⟨G_at (i := 531) (by decide +kernel) rfl, ii_Ma, by decide +kernel, by decide, by decide +kernel⟩
set_option maxRecDepth 100000 in
theorem mv_Ma_nextBondOf : MV M_Ma_nextBondOf := ⟨G_at (i := 529) (by decide +kernel) rfl, G_at (i := 530) (by decide +kernel) rfl⟩
set_option maxRecDepth 100000 in
theorem mf_Ma_isWhole : MF M_Ma_isWhole 0 := ⟨G_at (i := 471) (by decide +kernel) rfl, ii_Ma, by decide +kernel, by decide, by decide +kernel⟩
set_option maxRecDepth 100000 in
theorem mv_Ma_isWhole : MV M_Ma_isWhole := ⟨G_at (i := 469) (by decide +kernel) rfl, G_at (i := 470) (by decide +kernel) rfl⟩
set_option maxRecDepth 100000 in
theorem mf_Ma_stores : MF M_Ma_stores 0 := ⟨G_at (i := 967) (by decide +kernel) rfl, ii_Ma, by decide +kernel, by decide, by decide +kernel⟩
set_option maxRecDepth 100000 in
theorem mv_Ma_stores : MV M_Ma_stores := ⟨G_at (i := 965) (by decide +kernel) rfl, G_at (i := 966) (by decide +kernel) rfl⟩
set_option maxRecDepth 100000 in
theorem mf_Ma_storesTogether : MF M_Ma_storesTogether 0 := ⟨G_at (i := 951) (by decide +kernel) rfl, ii_Ma, by decide +kernel, by decide, by decide +kernel⟩
set_option maxRecDepth 100000 in
theorem mv_Ma_storesTogether : MV M_Ma_storesTogether := ⟨G_at (i := 949) (by decide +kernel) rfl, G_at (i := 950) (by decide +kernel) rfl⟩
set_option maxRecDepth 100000 in
theorem mf_Ma_textFor : MF M_Ma_textFor 2 := ⟨G_at (i := 629) (by decide +kernel) rfl, ii_Ma, by decide +kernel, by decide, by decide +kernel⟩
set_option maxRecDepth 100000 in
theorem mv_Ma_textFor : MV M_Ma_textFor := ⟨G_at (i := 627) (by decide +kernel) rfl, G_at (i := 628) (by decide +kernel) rfl⟩
set_option maxRecDepth 100000 in
theorem mf_Ma_textGives : MF M_Ma_textGives 4 := ⟨G_at (i := 634) (by decide +kernel) rfl, ii_Ma, by decide +kernel, by decide, by decide +kernel⟩
set_option maxRecDepth 100000 in
theorem mv_Ma_textGives : MV M_Ma_textGives := ⟨G_at (i := 632) (by decide +kernel) rfl, G_at (i := 633) (by decide +kernel) rfl⟩
set_option maxRecDepth 100000 in
theorem mf_Ma_followText : MF M_Ma_followText 2 := ⟨G_at (i := 625) (by decide +kernel) rfl, ii_Ma, by decide +kernel, by decide, by decide +kernel⟩
set_option maxRecDepth 100000 in
theorem mv_Ma_followText : MV M_Ma_followText := ⟨G_at (i := 623) (by decide +kernel) rfl, G_at (i := 624) (by decide +kernel) rfl⟩
set_option maxRecDepth 100000 in
theorem mf_Ma_doStep : MF M_Ma_doStep 2 := ⟨G_at (i := 619) (by decide +kernel) rfl, ii_Ma, by decide +kernel, by decide, by decide +kernel⟩
set_option maxRecDepth 100000 in
theorem mv_Ma_doStep : MV M_Ma_doStep := ⟨G_at (i := 617) (by decide +kernel) rfl, G_at (i := 618) (by decide +kernel) rfl⟩
set_option maxRecDepth 100000 in
theorem mf_Ma_withNeighbours : MF M_Ma_withNeighbours 1 := ⟨G_at (i := 860) (by decide +kernel) rfl, ii_Ma, by decide +kernel, by decide, by decide +kernel⟩
set_option maxRecDepth 100000 in
theorem mv_Ma_withNeighbours : MV M_Ma_withNeighbours := ⟨G_at (i := 858) (by decide +kernel) rfl, G_at (i := 859) (by decide +kernel) rfl⟩
set_option maxRecDepth 100000 in
theorem mf_Ma_pieces : MF M_Ma_pieces 0 := ⟨G_at (i := 856) (by decide +kernel) rfl, ii_Ma, by decide +kernel, by decide, by decide +kernel⟩
set_option maxRecDepth 100000 in
theorem mv_Ma_pieces : MV M_Ma_pieces := ⟨G_at (i := 854) (by decide +kernel) rfl, G_at (i := 855) (by decide +kernel) rfl⟩
set_option maxRecDepth 100000 in
theorem mf_Pa_init : MF M_Pa_init 0 := ⟨G_at (i := 118) (by decide +kernel) rfl, ii_Pa, by decide +kernel, by decide, by decide +kernel⟩
set_option maxRecDepth 100000 in
theorem mi_Pa_init : MI M_Pa_init := ⟨G_at (i := 117) (by decide +kernel) rfl, rfl, rfl⟩
set_option maxRecDepth 100000 in
theorem mf_Pa_become : MF M_Pa_become 3 := ⟨G_at (i := 384) (by decide +kernel) rfl, ii_Pa, by decide +kernel, by decide, by decide +kernel⟩
set_option maxRecDepth 100000 in
theorem mv_Pa_become : MV M_Pa_become := ⟨G_at (i := 382) (by decide +kernel) rfl, G_at (i := 383) (by decide +kernel) rfl⟩
set_option maxRecDepth 100000 in
theorem mf_Pa_takeShare : MF M_Pa_takeShare 1 := ⟨G_at (i := 388) (by decide +kernel) rfl, ii_Pa, by decide +kernel, by decide, by decide +kernel⟩
set_option maxRecDepth 100000 in
theorem mv_Pa_takeShare : MV M_Pa_takeShare := ⟨G_at (i := 386) (by decide +kernel) rfl, G_at (i := 387) (by decide +kernel) rfl⟩
set_option maxRecDepth 100000 in
theorem mf_Pa_takeFrom : MF M_Pa_takeFrom 1 := ⟨G_at (i := 615) (by decide +kernel) rfl, ii_Pa, by decide +kernel, by decide, by decide +kernel⟩
set_option maxRecDepth 100000 in
theorem mv_Pa_takeFrom : MV M_Pa_takeFrom := ⟨G_at (i := 613) (by decide +kernel) rfl, G_at (i := 614) (by decide +kernel) rfl⟩
set_option maxRecDepth 100000 in
theorem mf_Pa_shareCode : MF M_Pa_shareCode 0 := ⟨G_at (i := 400) (by decide +kernel) rfl, ii_Pa, by decide +kernel, by decide, by decide +kernel⟩
set_option maxRecDepth 100000 in
theorem mv_Pa_shareCode : MV M_Pa_shareCode := ⟨G_at (i := 398) (by decide +kernel) rfl, G_at (i := 399) (by decide +kernel) rfl⟩
set_option maxRecDepth 100000 in
theorem mf_Pa_shareWorth : MF M_Pa_shareWorth 0 := ⟨G_at (i := 412) (by decide +kernel) rfl, ii_Pa, by decide +kernel, by decide, by decide +kernel⟩
set_option maxRecDepth 100000 in
theorem mv_Pa_shareWorth : MV M_Pa_shareWorth := ⟨G_at (i := 410) (by decide +kernel) rfl, G_at (i := 411) (by decide +kernel) rfl⟩
set_option maxRecDepth 100000 in
theorem mf_Pa_isOf : MF M_Pa_isOf 1 := ⟨G_at (i := 428) (by decide +kernel) rfl, ii_Pa, by decide +kernel, by decide, by decide +kernel⟩
set_option maxRecDepth 100000 in
theorem mv_Pa_isOf : MV M_Pa_isOf := ⟨G_at (i := 426) (by decide +kernel) rfl, G_at (i := 427) (by decide +kernel) rfl⟩
set_option maxRecDepth 100000 in
theorem mf_Pa_wants : MF M_Pa_wants 1 := ⟨G_at (i := 408) (by decide +kernel) rfl, ii_Pa, by decide +kernel, by decide, by decide +kernel⟩
set_option maxRecDepth 100000 in
theorem mv_Pa_wants : MV M_Pa_wants := ⟨G_at (i := 406) (by decide +kernel) rfl, G_at (i := 407) (by decide +kernel) rfl⟩
set_option maxRecDepth 100000 in
theorem mf_Pa_turnToDual : MF M_Pa_turnToDual 0 := ⟨G_at (i := 848) (by decide +kernel) rfl, ii_Pa, by decide +kernel, by decide, by decide +kernel⟩
set_option maxRecDepth 100000 in
theorem mv_Pa_turnToDual : MV M_Pa_turnToDual := ⟨G_at (i := 846) (by decide +kernel) rfl, G_at (i := 847) (by decide +kernel) rfl⟩
set_option maxRecDepth 100000 in
theorem mf_Sh_init : MF M_Sh_init 0 := ⟨G_at (i := 290) (by decide +kernel) rfl, ii_Sh, by decide +kernel, by decide, by decide +kernel⟩
set_option maxRecDepth 100000 in
theorem mi_Sh_init : MI M_Sh_init := ⟨G_at (i := 289) (by decide +kernel) rfl, rfl, rfl⟩
set_option maxRecDepth 100000 in
theorem mf_Sh_become : MF M_Sh_become 2 := ⟨G_at (i := 882) (by decide +kernel) rfl, ii_Sh, by decide +kernel, by decide, by decide +kernel⟩
set_option maxRecDepth 100000 in
theorem mv_Sh_become : MV M_Sh_become := ⟨G_at (i := 880) (by decide +kernel) rfl, G_at (i := 881) (by decide +kernel) rfl⟩
set_option maxRecDepth 100000 in
theorem mf_Sh_takeFrom : MF M_Sh_takeFrom 1 := ⟨G_at (i := 920) (by decide +kernel) rfl, ii_Sh, by decide +kernel, by decide, by decide +kernel⟩
set_option maxRecDepth 100000 in
theorem mv_Sh_takeFrom : MV M_Sh_takeFrom := ⟨G_at (i := 918) (by decide +kernel) rfl, G_at (i := 919) (by decide +kernel) rfl⟩
set_option maxRecDepth 100000 in
theorem mf_Sh_hasPlace : MF M_Sh_hasPlace 1 := ⟨G_at (i := 894) (by decide +kernel) rfl, ii_Sh, by decide +kernel, by decide, by decide +kernel⟩
set_option maxRecDepth 100000 in
theorem mv_Sh_hasPlace : MV M_Sh_hasPlace := ⟨G_at (i := 892) (by decide +kernel) rfl, G_at (i := 893) (by decide +kernel) rfl⟩
set_option maxRecDepth 100000 in
theorem mf_Sh_hasRow : MF M_Sh_hasRow 2 := ⟨G_at (i := 907) (by decide +kernel) rfl, ii_Sh, by decide +kernel, by decide, by decide +kernel⟩
set_option maxRecDepth 100000 in
theorem mv_Sh_hasRow : MV M_Sh_hasRow := ⟨G_at (i := 905) (by decide +kernel) rfl, G_at (i := 906) (by decide +kernel) rfl⟩
set_option maxRecDepth 100000 in
theorem mf_Sl_init : MF M_Sl_init 0 := ⟨G_at (i := 307) (by decide +kernel) rfl, ii_Sl, by decide +kernel, by decide, by decide +kernel⟩
set_option maxRecDepth 100000 in
theorem mi_Sl_init : MI M_Sl_init := ⟨G_at (i := 306) (by decide +kernel) rfl, rfl, rfl⟩
set_option maxRecDepth 100000 in
theorem mf_Sl_refusalFor : MF M_Sl_refusalFor 1 := ⟨G_at (i := 929) (by decide +kernel) rfl, ii_Sl, by decide +kernel, by decide, by decide +kernel⟩
set_option maxRecDepth 100000 in
theorem mv_Sl_refusalFor : MV M_Sl_refusalFor := ⟨G_at (i := 927) (by decide +kernel) rfl, G_at (i := 928) (by decide +kernel) rfl⟩
set_option maxRecDepth 100000 in
theorem mf_Ta_init : MF M_Ta_init 0 := ⟨G_at (i := 250) (by decide +kernel) rfl, ii_Ta, by decide +kernel, by decide, by decide +kernel⟩
set_option maxRecDepth 100000 in
theorem mi_Ta_init : MI M_Ta_init := ⟨G_at (i := 249) (by decide +kernel) rfl, rfl, rfl⟩
set_option maxRecDepth 100000 in
theorem mf_Ta_putBytes : MF M_Ta_putBytes 1 := ⟨G_at (i := 658) (by decide +kernel) rfl, ii_Ta, by decide +kernel, by decide, by decide +kernel⟩
set_option maxRecDepth 100000 in
theorem mv_Ta_putBytes : MV M_Ta_putBytes := ⟨G_at (i := 656) (by decide +kernel) rfl, G_at (i := 657) (by decide +kernel) rfl⟩
set_option maxRecDepth 100000 in
theorem mf_Ta_parse : MF M_Ta_parse 0 := ⟨G_at (i := 670) (by decide +kernel) rfl, ii_Ta, by decide +kernel, by decide, by decide +kernel⟩
set_option maxRecDepth 100000 in
theorem mv_Ta_parse : MV M_Ta_parse := ⟨G_at (i := 668) (by decide +kernel) rfl, G_at (i := 669) (by decide +kernel) rfl⟩
set_option maxRecDepth 100000 in
theorem mf_Ta_goOn : MF M_Ta_goOn 0 := ⟨G_at (i := 674) (by decide +kernel) rfl, ii_Ta, by decide +kernel, by decide, by decide +kernel⟩
set_option maxRecDepth 100000 in
theorem mv_Ta_goOn : MV M_Ta_goOn := ⟨G_at (i := 673) (by decide +kernel) rfl, G_at (i := 17) (by decide +kernel) rfl⟩
set_option maxRecDepth 100000 in
theorem mf_Ta_sortAt : MF M_Ta_sortAt 1 := ⟨G_at (i := 678) (by decide +kernel) rfl, ii_Ta, by decide +kernel, by decide, by decide +kernel⟩
set_option maxRecDepth 100000 in
theorem mv_Ta_sortAt : MV M_Ta_sortAt := ⟨G_at (i := 677) (by decide +kernel) rfl, G_at (i := 18) (by decide +kernel) rfl⟩
set_option maxRecDepth 100000 in
theorem mf_Ta_keyHere : MF M_Ta_keyHere 0 := ⟨G_at (i := 682) (by decide +kernel) rfl, ii_Ta, by decide +kernel, by decide, by decide +kernel⟩
set_option maxRecDepth 100000 in
theorem mv_Ta_keyHere : MV M_Ta_keyHere := ⟨G_at (i := 681) (by decide +kernel) rfl, G_at (i := 19) (by decide +kernel) rfl⟩
set_option maxRecDepth 100000 in
theorem mf_Ta_isWord : MF M_Ta_isWord 1 := ⟨G_at (i := 687) (by decide +kernel) rfl, ii_Ta, by decide +kernel, by decide, by decide +kernel⟩
set_option maxRecDepth 100000 in
theorem mv_Ta_isWord : MV M_Ta_isWord := ⟨G_at (i := 686) (by decide +kernel) rfl, G_at (i := 20) (by decide +kernel) rfl⟩
set_option maxRecDepth 100000 in
theorem mf_Ta_numberHere : MF M_Ta_numberHere 0 := ⟨G_at (i := 740) (by decide +kernel) rfl, ii_Ta, by decide +kernel, by decide, by decide +kernel⟩
set_option maxRecDepth 100000 in
theorem mv_Ta_numberHere : MV M_Ta_numberHere := ⟨G_at (i := 739) (by decide +kernel) rfl, G_at (i := 21) (by decide +kernel) rfl⟩
set_option maxRecDepth 100000 in
theorem mf_Ta_isName : MF M_Ta_isName 0 := ⟨G_at (i := 764) (by decide +kernel) rfl, ii_Ta, by decide +kernel, by decide, by decide +kernel⟩
set_option maxRecDepth 100000 in
theorem mv_Ta_isName : MV M_Ta_isName := ⟨G_at (i := 763) (by decide +kernel) rfl, G_at (i := 27) (by decide +kernel) rfl⟩
set_option maxRecDepth 100000 in
theorem mf_Ta_isSign : MF M_Ta_isSign 1 := ⟨G_at (i := 752) (by decide +kernel) rfl, ii_Ta, by decide +kernel, by decide, by decide +kernel⟩
set_option maxRecDepth 100000 in
theorem mv_Ta_isSign : MV M_Ta_isSign := ⟨G_at (i := 751) (by decide +kernel) rfl, G_at (i := 24) (by decide +kernel) rfl⟩
set_option maxRecDepth 100000 in
theorem mf_Ta_joinsAt : MF M_Ta_joinsAt 1 := ⟨G_at (i := 768) (by decide +kernel) rfl, ii_Ta, by decide +kernel, by decide, by decide +kernel⟩
set_option maxRecDepth 100000 in
theorem mv_Ta_joinsAt : MV M_Ta_joinsAt := ⟨G_at (i := 767) (by decide +kernel) rfl, G_at (i := 28) (by decide +kernel) rfl⟩
set_option maxRecDepth 100000 in
theorem mf_Ta_put : MF M_Ta_put 1 := ⟨G_at (i := 756) (by decide +kernel) rfl, ii_Ta, by decide +kernel, by decide, by decide +kernel⟩
set_option maxRecDepth 100000 in
theorem mv_Ta_put : MV M_Ta_put := ⟨G_at (i := 755) (by decide +kernel) rfl, G_at (i := 25) (by decide +kernel) rfl⟩
set_option maxRecDepth 100000 in
theorem mf_Ta_readLevel : MF M_Ta_readLevel 3 := ⟨G_at (i := 744) (by decide +kernel) rfl, ii_Ta, by decide +kernel, by decide, by decide +kernel⟩
set_option maxRecDepth 100000 in
theorem mv_Ta_readLevel : MV M_Ta_readLevel := ⟨G_at (i := 743) (by decide +kernel) rfl, G_at (i := 22) (by decide +kernel) rfl⟩
set_option maxRecDepth 100000 in
theorem mf_Ta_readPiece : MF M_Ta_readPiece 2 := ⟨G_at (i := 748) (by decide +kernel) rfl, ii_Ta, by decide +kernel, by decide, by decide +kernel⟩
set_option maxRecDepth 100000 in
theorem mv_Ta_readPiece : MV M_Ta_readPiece := ⟨G_at (i := 747) (by decide +kernel) rfl, G_at (i := 23) (by decide +kernel) rfl⟩
set_option maxRecDepth 100000 in
theorem mf_Ta_readOperand : MF M_Ta_readOperand 0 := ⟨G_at (i := 760) (by decide +kernel) rfl, ii_Ta, by decide +kernel, by decide, by decide +kernel⟩
set_option maxRecDepth 100000 in
theorem mv_Ta_readOperand : MV M_Ta_readOperand := ⟨G_at (i := 759) (by decide +kernel) rfl, G_at (i := 26) (by decide +kernel) rfl⟩
set_option maxRecDepth 100000 in
theorem mf_Tx_init : MF M_Tx_init 4 := ⟨G_at (i := 789) (by decide +kernel) rfl, ii_Tx, by decide +kernel, by decide, by decide +kernel⟩
set_option maxRecDepth 100000 in
theorem mi_Tx_init : MI M_Tx_init := ⟨G_at (i := 788) (by decide +kernel) rfl, rfl, rfl⟩
set_option maxRecDepth 100000 in
theorem mf_Tx_workOut : MF M_Tx_workOut 4 := ⟨G_at (i := 638) (by decide +kernel) rfl, ii_Tx, by decide +kernel, by decide, by decide +kernel⟩
set_option maxRecDepth 100000 in
theorem mv_Tx_workOut : MV M_Tx_workOut := ⟨G_at (i := 636) (by decide +kernel) rfl, G_at (i := 637) (by decide +kernel) rfl⟩
set_option maxRecDepth 100000 in
theorem mf_Tx_isOperand : MF M_Tx_isOperand 1 := ⟨G_at (i := 644) (by decide +kernel) rfl, ii_Tx, by decide +kernel, by decide, by decide +kernel⟩
set_option maxRecDepth 100000 in
theorem ms_Tx_isOperand : MS M_Tx_isOperand := G_at (i := 643) (by decide +kernel) rfl
set_option maxRecDepth 100000 in
theorem mf_Tx_valueOf : MF M_Tx_valueOf 4 := ⟨G_at (i := 647) (by decide +kernel) rfl, ii_Tx, by decide +kernel, by decide, by decide +kernel⟩
set_option maxRecDepth 100000 in
theorem ms_Tx_valueOf : MS M_Tx_valueOf := G_at (i := 646) (by decide +kernel) rfl
set_option maxRecDepth 100000 in
theorem mf_Tx_join : MF M_Tx_join 3 := ⟨G_at (i := 650) (by decide +kernel) rfl, ii_Tx, by decide +kernel, by decide, by decide +kernel⟩
set_option maxRecDepth 100000 in
theorem ms_Tx_join : MS M_Tx_join := G_at (i := 649) (by decide +kernel) rfl
set_option maxRecDepth 100000 in
theorem mf_Tx_truth : MF M_Tx_truth 1 := ⟨G_at (i := 641) (by decide +kernel) rfl, ii_Tx, by decide +kernel, by decide, by decide +kernel⟩
set_option maxRecDepth 100000 in
theorem ms_Tx_truth : MS M_Tx_truth := G_at (i := 640) (by decide +kernel) rfl
set_option maxRecDepth 100000 in
theorem mf_Pb_init : MF M_Pb_init 0 := ⟨G_at (i := 101) (by decide +kernel) rfl, ii_Pb, by decide +kernel, by decide, by decide +kernel⟩
set_option maxRecDepth 100000 in
theorem mi_Pb_init : MI M_Pb_init := ⟨G_at (i := 100) (by decide +kernel) rfl, rfl, rfl⟩
set_option maxRecDepth 100000 in
theorem mf_Pb_part : MF M_Pb_part 3 := ⟨G_at (i := 372) (by decide +kernel) rfl, ii_Pb, by decide +kernel, by decide, by decide +kernel⟩
set_option maxRecDepth 100000 in
theorem mv_Pb_part : MV M_Pb_part := ⟨G_at (i := 370) (by decide +kernel) rfl, G_at (i := 371) (by decide +kernel) rfl⟩
set_option maxRecDepth 100000 in
theorem mf_Pb_told : MF M_Pb_told 2 := ⟨G_at (i := 392) (by decide +kernel) rfl, ii_Pb, by decide +kernel, by decide, by decide +kernel⟩
set_option maxRecDepth 100000 in
theorem mv_Pb_told : MV M_Pb_told := ⟨G_at (i := 390) (by decide +kernel) rfl, G_at (i := 391) (by decide +kernel) rfl⟩
set_option maxRecDepth 100000 in
theorem mf_Pb_as : MF M_Pb_as 2 := ⟨G_at (i := 424) (by decide +kernel) rfl, ii_Pb, by decide +kernel, by decide, by decide +kernel⟩
set_option maxRecDepth 100000 in
theorem mv_Pb_as : MV M_Pb_as := ⟨G_at (i := 422) (by decide +kernel) rfl, G_at (i := 423) (by decide +kernel) rfl⟩
set_option maxRecDepth 100000 in
theorem mf_Pb_set : MF M_Pb_set 3 := ⟨G_at (i := 435) (by decide +kernel) rfl, ii_Pb, by decide +kernel, by decide, by decide +kernel⟩
set_option maxRecDepth 100000 in
theorem mv_Pb_set : MV M_Pb_set := ⟨G_at (i := 433) (by decide +kernel) rfl, G_at (i := 434) (by decide +kernel) rfl⟩
set_option maxRecDepth 100000 in
theorem mf_Pb_bond : MF M_Pb_bond 2 := ⟨G_at (i := 447) (by decide +kernel) rfl, ii_Pb, by decide +kernel, by decide, by decide +kernel⟩
set_option maxRecDepth 100000 in
theorem mv_Pb_bond : MV M_Pb_bond := ⟨G_at (i := 445) (by decide +kernel) rfl, G_at (i := 446) (by decide +kernel) rfl⟩
set_option maxRecDepth 100000 in
theorem mf_Pb_breaks : MF M_Pb_breaks 1 := ⟨G_at (i := 451) (by decide +kernel) rfl, ii_Pb, by decide +kernel, by decide, by decide +kernel⟩
set_option maxRecDepth 100000 in
theorem mv_Pb_breaks : MV M_Pb_breaks := ⟨G_at (i := 449) (by decide +kernel) rfl, G_at (i := 450) (by decide +kernel) rfl⟩
set_option maxRecDepth 100000 in
theorem mf_Pb_of : MF M_Pb_of 2 := ⟨G_at (i := 463) (by decide +kernel) rfl, ii_Pb, by decide +kernel, by decide, by decide +kernel⟩
set_option maxRecDepth 100000 in
theorem mv_Pb_of : MV M_Pb_of := ⟨G_at (i := 461) (by decide +kernel) rfl, G_at (i := 462) (by decide +kernel) rfl⟩
set_option maxRecDepth 100000 in
theorem mf_Pb_whole : MF M_Pb_whole 0 := ⟨G_at (i := 585) (by decide +kernel) rfl, ii_Pb, by decide +kernel, by decide, by decide +kernel⟩
set_option maxRecDepth 100000 in
theorem mv_Pb_whole : MV M_Pb_whole := ⟨G_at (i := 583) (by decide +kernel) rfl, G_at (i := 584) (by decide +kernel) rfl⟩
set_option maxRecDepth 100000 in
theorem mf_Pb_answers : MF M_Pb_answers 0 := ⟨G_at (i := 589) (by decide +kernel) rfl, ii_Pb, by decide +kernel, by decide, by decide +kernel⟩
set_option maxRecDepth 100000 in
theorem mv_Pb_answers : MV M_Pb_answers := ⟨G_at (i := 587) (by decide +kernel) rfl, G_at (i := 588) (by decide +kernel) rfl⟩
set_option maxRecDepth 100000 in
theorem mf_Pb_strokes : MF M_Pb_strokes 1 := ⟨G_at (i := 593) (by decide +kernel) rfl, ii_Pb, by decide +kernel, by decide, by decide +kernel⟩
set_option maxRecDepth 100000 in
theorem mv_Pb_strokes : MV M_Pb_strokes := ⟨G_at (i := 591) (by decide +kernel) rfl, G_at (i := 592) (by decide +kernel) rfl⟩
set_option maxRecDepth 100000 in
theorem mf_Pb_can : MF M_Pb_can 1 := ⟨G_at (i := 601) (by decide +kernel) rfl, ii_Pb, by decide +kernel, by decide, by decide +kernel⟩
set_option maxRecDepth 100000 in
theorem mv_Pb_can : MV M_Pb_can := ⟨G_at (i := 599) (by decide +kernel) rfl, G_at (i := 600) (by decide +kernel) rfl⟩
set_option maxRecDepth 100000 in
theorem mf_Pb_run : MF M_Pb_run 1 := ⟨G_at (i := 607) (by decide +kernel) rfl, ii_Pb, by decide +kernel, by decide, by decide +kernel⟩
set_option maxRecDepth 100000 in
theorem mv_Pb_run : MV M_Pb_run := ⟨G_at (i := 605) (by decide +kernel) rfl, G_at (i := 606) (by decide +kernel) rfl⟩
set_option maxRecDepth 100000 in
theorem mf_Pb_feed : MF M_Pb_feed 3 := ⟨G_at (i := 654) (by decide +kernel) rfl, ii_Pb, by decide +kernel, by decide, by decide +kernel⟩
set_option maxRecDepth 100000 in
theorem mv_Pb_feed : MV M_Pb_feed := ⟨G_at (i := 652) (by decide +kernel) rfl, G_at (i := 653) (by decide +kernel) rfl⟩
set_option maxRecDepth 100000 in
theorem mf_Pb_trim : MF M_Pb_trim 1 := ⟨G_at (i := 662) (by decide +kernel) rfl, ii_Pb, by decide +kernel, by decide, by decide +kernel⟩
set_option maxRecDepth 100000 in
theorem mv_Pb_trim : MV M_Pb_trim := ⟨G_at (i := 660) (by decide +kernel) rfl, G_at (i := 661) (by decide +kernel) rfl⟩
set_option maxRecDepth 100000 in
theorem mf_Pb_text : MF M_Pb_text 0 := ⟨G_at (i := 666) (by decide +kernel) rfl, ii_Pb, by decide +kernel, by decide, by decide +kernel⟩
set_option maxRecDepth 100000 in
theorem mv_Pb_text : MV M_Pb_text := ⟨G_at (i := 664) (by decide +kernel) rfl, G_at (i := 665) (by decide +kernel) rfl⟩
set_option maxRecDepth 100000 in
theorem mf_Pb_textTold : MF M_Pb_textTold 2 := ⟨G_at (i := 813) (by decide +kernel) rfl, ii_Pb, by decide +kernel, by decide, by decide +kernel⟩
set_option maxRecDepth 100000 in
theorem mv_Pb_textTold : MV M_Pb_textTold := ⟨G_at (i := 811) (by decide +kernel) rfl, G_at (i := 812) (by decide +kernel) rfl⟩
set_option maxRecDepth 100000 in
theorem mf_Pb_why : MF M_Pb_why 2 := ⟨G_at (i := 817) (by decide +kernel) rfl, ii_Pb, by decide +kernel, by decide, by decide +kernel⟩
set_option maxRecDepth 100000 in
theorem mv_Pb_why : MV M_Pb_why := ⟨G_at (i := 815) (by decide +kernel) rfl, G_at (i := 816) (by decide +kernel) rfl⟩
set_option maxRecDepth 100000 in
theorem mf_Pb_read : MF M_Pb_read 1 := ⟨G_at (i := 823) (by decide +kernel) rfl, ii_Pb, by decide +kernel, by decide, by decide +kernel⟩
set_option maxRecDepth 100000 in
theorem mv_Pb_read : MV M_Pb_read := ⟨G_at (i := 821) (by decide +kernel) rfl, G_at (i := 822) (by decide +kernel) rfl⟩
set_option maxRecDepth 100000 in
theorem mf_Pb_moves : MF M_Pb_moves 3 := ⟨G_at (i := 828) (by decide +kernel) rfl, ii_Pb, by decide +kernel, by decide, by decide +kernel⟩
set_option maxRecDepth 100000 in
theorem mv_Pb_moves : MV M_Pb_moves := ⟨G_at (i := 826) (by decide +kernel) rfl, G_at (i := 827) (by decide +kernel) rfl⟩
set_option maxRecDepth 100000 in
theorem mf_Pb_signs : MF M_Pb_signs 1 := ⟨G_at (i := 832) (by decide +kernel) rfl, ii_Pb, by decide +kernel, by decide, by decide +kernel⟩
set_option maxRecDepth 100000 in
theorem mv_Pb_signs : MV M_Pb_signs := ⟨G_at (i := 830) (by decide +kernel) rfl, G_at (i := 831) (by decide +kernel) rfl⟩
set_option maxRecDepth 100000 in
theorem mf_Pb_apart : MF M_Pb_apart 2 := ⟨G_at (i := 840) (by decide +kernel) rfl, ii_Pb, by decide +kernel, by decide, by decide +kernel⟩
set_option maxRecDepth 100000 in
theorem mv_Pb_apart : MV M_Pb_apart := ⟨G_at (i := 838) (by decide +kernel) rfl, G_at (i := 839) (by decide +kernel) rfl⟩
set_option maxRecDepth 100000 in
theorem mf_Pb_dual : MF M_Pb_dual 0 := ⟨G_at (i := 844) (by decide +kernel) rfl, ii_Pb, by decide +kernel, by decide, by decide +kernel⟩
set_option maxRecDepth 100000 in
theorem mv_Pb_dual : MV M_Pb_dual := ⟨G_at (i := 842) (by decide +kernel) rfl, G_at (i := 843) (by decide +kernel) rfl⟩
set_option maxRecDepth 100000 in
theorem mf_Pb_rings : MF M_Pb_rings 0 := ⟨G_at (i := 852) (by decide +kernel) rfl, ii_Pb, by decide +kernel, by decide, by decide +kernel⟩
set_option maxRecDepth 100000 in
theorem mv_Pb_rings : MV M_Pb_rings := ⟨G_at (i := 850) (by decide +kernel) rfl, G_at (i := 851) (by decide +kernel) rfl⟩
set_option maxRecDepth 100000 in
theorem mf_Pb_way : MF M_Pb_way 2 := ⟨G_at (i := 864) (by decide +kernel) rfl, ii_Pb, by decide +kernel, by decide, by decide +kernel⟩
set_option maxRecDepth 100000 in
theorem mv_Pb_way : MV M_Pb_way := ⟨G_at (i := 862) (by decide +kernel) rfl, G_at (i := 863) (by decide +kernel) rfl⟩
set_option maxRecDepth 100000 in
theorem mf_Pb_worth : MF M_Pb_worth 3 := ⟨G_at (i := 869) (by decide +kernel) rfl, ii_Pb, by decide +kernel, by decide, by decide +kernel⟩
set_option maxRecDepth 100000 in
theorem mv_Pb_worth : MV M_Pb_worth := ⟨G_at (i := 867) (by decide +kernel) rfl, G_at (i := 868) (by decide +kernel) rfl⟩
set_option maxRecDepth 100000 in
theorem mf_Pb_sheet : MF M_Pb_sheet 3 := ⟨G_at (i := 874) (by decide +kernel) rfl, ii_Pb, by decide +kernel, by decide, by decide +kernel⟩
set_option maxRecDepth 100000 in
theorem mv_Pb_sheet : MV M_Pb_sheet := ⟨G_at (i := 872) (by decide +kernel) rfl, G_at (i := 873) (by decide +kernel) rfl⟩
set_option maxRecDepth 100000 in
theorem mf_Pb_mark : MF M_Pb_mark 3 := ⟨G_at (i := 889) (by decide +kernel) rfl, ii_Pb, by decide +kernel, by decide, by decide +kernel⟩
set_option maxRecDepth 100000 in
theorem mv_Pb_mark : MV M_Pb_mark := ⟨G_at (i := 887) (by decide +kernel) rfl, G_at (i := 888) (by decide +kernel) rfl⟩
set_option maxRecDepth 100000 in
theorem mf_Pb_pour : MF M_Pb_pour 1 := ⟨G_at (i := 899) (by decide +kernel) rfl, ii_Pb, by decide +kernel, by decide, by decide +kernel⟩
set_option maxRecDepth 100000 in
theorem mv_Pb_pour : MV M_Pb_pour := ⟨G_at (i := 897) (by decide +kernel) rfl, G_at (i := 898) (by decide +kernel) rfl⟩
set_option maxRecDepth 100000 in
theorem mf_Pb_copy : MF M_Pb_copy 5 := ⟨G_at (i := 903) (by decide +kernel) rfl, ii_Pb, by decide +kernel, by decide, by decide +kernel⟩
set_option maxRecDepth 100000 in
theorem mv_Pb_copy : MV M_Pb_copy := ⟨G_at (i := 901) (by decide +kernel) rfl, G_at (i := 902) (by decide +kernel) rfl⟩
set_option maxRecDepth 100000 in
theorem mf_Pb_lay : MF M_Pb_lay 3 := ⟨G_at (i := 912) (by decide +kernel) rfl, ii_Pb, by decide +kernel, by decide, by decide +kernel⟩
set_option maxRecDepth 100000 in
theorem mv_Pb_lay : MV M_Pb_lay := ⟨G_at (i := 910) (by decide +kernel) rfl, G_at (i := 911) (by decide +kernel) rfl⟩
set_option maxRecDepth 100000 in
theorem mf_Pb_ask : MF M_Pb_ask 2 := ⟨G_at (i := 925) (by decide +kernel) rfl, ii_Pb, by decide +kernel, by decide, by decide +kernel⟩
set_option maxRecDepth 100000 in
theorem mv_Pb_ask : MV M_Pb_ask := ⟨G_at (i := 923) (by decide +kernel) rfl, G_at (i := 924) (by decide +kernel) rfl⟩
set_option maxRecDepth 100000 in
theorem mf_Pb_item : MF M_Pb_item 2 := ⟨G_at (i := 935) (by decide +kernel) rfl, ii_Pb, by decide +kernel, by decide, by decide +kernel⟩
set_option maxRecDepth 100000 in
theorem mv_Pb_item : MV M_Pb_item := ⟨G_at (i := 933) (by decide +kernel) rfl, G_at (i := 934) (by decide +kernel) rfl⟩
set_option maxRecDepth 100000 in
theorem mf_Pb_rest : MF M_Pb_rest 2 := ⟨G_at (i := 939) (by decide +kernel) rfl, ii_Pb, by decide +kernel, by decide, by decide +kernel⟩
set_option maxRecDepth 100000 in
theorem mv_Pb_rest : MV M_Pb_rest := ⟨G_at (i := 937) (by decide +kernel) rfl, G_at (i := 938) (by decide +kernel) rfl⟩
set_option maxRecDepth 100000 in
theorem mf_Pb_tell : MF M_Pb_tell 1 := ⟨G_at (i := 943) (by decide +kernel) rfl, ii_Pb, by decide +kernel, by decide, by decide +kernel⟩
set_option maxRecDepth 100000 in
theorem mv_Pb_tell : MV M_Pb_tell := ⟨G_at (i := 941) (by decide +kernel) rfl, G_at (i := 942) (by decide +kernel) rfl⟩
set_option maxRecDepth 100000 in
theorem mf_Pb_check : MF M_Pb_check 1 := ⟨G_at (i := 947) (by decide +kernel) rfl, ii_Pb, by decide +kernel, by decide, by decide +kernel⟩
set_option maxRecDepth 100000 in
theorem mv_Pb_check : MV M_Pb_check := ⟨G_at (i := 945) (by decide +kernel) rfl, G_at (i := 946) (by decide +kernel) rfl⟩
set_option maxRecDepth 100000 in
theorem mf_Pb_keep : MF M_Pb_keep 0 := ⟨G_at (i := 955) (by decide +kernel) rfl, ii_Pb, by decide +kernel, by decide, by decide +kernel⟩
set_option maxRecDepth 100000 in
theorem mv_Pb_keep : MV M_Pb_keep := ⟨G_at (i := 953) (by decide +kernel) rfl, G_at (i := 954) (by decide +kernel) rfl⟩
set_option maxRecDepth 100000 in
theorem mf_Pb_back : MF M_Pb_back 0 := ⟨G_at (i := 959) (by decide +kernel) rfl, ii_Pb, by decide +kernel, by decide, by decide +kernel⟩
set_option maxRecDepth 100000 in
theorem mv_Pb_back : MV M_Pb_back := ⟨G_at (i := 957) (by decide +kernel) rfl, G_at (i := 958) (by decide +kernel) rfl⟩
set_option maxRecDepth 100000 in
theorem mf_Pb_count : MF M_Pb_count 1 := ⟨G_at (i := 963) (by decide +kernel) rfl, ii_Pb, by decide +kernel, by decide, by decide +kernel⟩
set_option maxRecDepth 100000 in
theorem mv_Pb_count : MV M_Pb_count := ⟨G_at (i := 961) (by decide +kernel) rfl, G_at (i := 962) (by decide +kernel) rfl⟩
set_option maxRecDepth 100000 in
theorem mf_Pb_settlerOf : MF M_Pb_settlerOf 1 := ⟨G_at (i := 467) (by decide +kernel) rfl, ii_Pb, by decide +kernel, by decide, by decide +kernel⟩
set_option maxRecDepth 100000 in
theorem mv_Pb_settlerOf : MV M_Pb_settlerOf := ⟨G_at (i := 466) (by decide +kernel) rfl, G_at (i := 0) (by decide +kernel) rfl⟩
set_option maxRecDepth 100000 in
theorem mf_Pb_carriedBy : MF M_Pb_carriedBy 2 := ⟨G_at (i := 517) (by decide +kernel) rfl, ii_Pb, by decide +kernel, by decide, by decide +kernel⟩
set_option maxRecDepth 100000 in
theorem mv_Pb_carriedBy : MV M_Pb_carriedBy := ⟨G_at (i := 516) (by decide +kernel) rfl, G_at (i := 6) (by decide +kernel) rfl⟩
set_option maxRecDepth 100000 in
theorem mf_Pb_signsOf : MF M_Pb_signsOf 1 := ⟨G_at (i := 836) (by decide +kernel) rfl, ii_Pb, by decide +kernel, by decide, by decide +kernel⟩
set_option maxRecDepth 100000 in
theorem mv_Pb_signsOf : MV M_Pb_signsOf := ⟨G_at (i := 835) (by decide +kernel) rfl, G_at (i := 29) (by decide +kernel) rfl⟩
set_option maxRecDepth 100000 in
theorem mf_Pb_isKind : MF M_Pb_isKind 1 := ⟨G_at (i := 375) (by decide +kernel) rfl, ii_Pb, by decide +kernel, by decide, by decide +kernel⟩
set_option maxRecDepth 100000 in
theorem ms_Pb_isKind : MS M_Pb_isKind := G_at (i := 374) (by decide +kernel) rfl
set_option maxRecDepth 100000 in
theorem mf_Pb_isShare : MF M_Pb_isShare 1 := ⟨G_at (i := 378) (by decide +kernel) rfl, ii_Pb, by decide +kernel, by decide, by decide +kernel⟩
set_option maxRecDepth 100000 in
theorem ms_Pb_isShare : MS M_Pb_isShare := G_at (i := 377) (by decide +kernel) rfl
set_option maxRecDepth 100000 in
theorem mf_Pb_isSheet : MF M_Pb_isSheet 1 := ⟨G_at (i := 877) (by decide +kernel) rfl, ii_Pb, by decide +kernel, by decide, by decide +kernel⟩
set_option maxRecDepth 100000 in
theorem ms_Pb_isSheet : MS M_Pb_isSheet := G_at (i := 876) (by decide +kernel) rfl
set_option maxRecDepth 100000 in
theorem mf_Pb_isSlot : MF M_Pb_isSlot 1 := ⟨G_at (i := 915) (by decide +kernel) rfl, ii_Pb, by decide +kernel, by decide, by decide +kernel⟩
set_option maxRecDepth 100000 in
theorem ms_Pb_isSlot : MS M_Pb_isSlot := G_at (i := 914) (by decide +kernel) rfl
set_option maxRecDepth 100000 in
theorem mf_Pb_worthOf : MF M_Pb_worthOf 1 := ⟨G_at (i := 439) (by decide +kernel) rfl, ii_Pb, by decide +kernel, by decide, by decide +kernel⟩
set_option maxRecDepth 100000 in
theorem ms_Pb_worthOf : MS M_Pb_worthOf := G_at (i := 438) (by decide +kernel) rfl
set_option maxRecDepth 100000 in
theorem mf_Pb_product : MF M_Pb_product 2 := ⟨G_at (i := 420) (by decide +kernel) rfl, ii_Pb, by decide +kernel, by decide, by decide +kernel⟩
set_option maxRecDepth 100000 in
theorem ms_Pb_product : MS M_Pb_product := G_at (i := 419) (by decide +kernel) rfl
set_option maxRecDepth 100000 in
theorem mf_Pb_inverse : MF M_Pb_inverse 1 := ⟨G_at (i := 415) (by decide +kernel) rfl, ii_Pb, by decide +kernel, by decide, by decide +kernel⟩
set_option maxRecDepth 100000 in
theorem ms_Pb_inverse : MS M_Pb_inverse := G_at (i := 414) (by decide +kernel) rfl
set_option maxRecDepth 100000 in
theorem mf_Mo_init : MF M_Mo_init 0 := ⟨G_at (i := 972) (by decide +kernel) rfl, ii_Mo, by decide +kernel, by decide, by decide +kernel⟩
set_option maxRecDepth 100000 in
theorem mi_Mo_init : MI M_Mo_init := ⟨G_at (i := 971) (by decide +kernel) rfl, rfl, rfl⟩
set_option maxRecDepth 100000 in
theorem mf_Mo_isIn : MF M_Mo_isIn 3 := ⟨G_at (i := 1086) (by decide +kernel) rfl, ii_Mo, by decide +kernel, by decide, by decide +kernel⟩
set_option maxRecDepth 100000 in
theorem ms_Mo_isIn : MS M_Mo_isIn := G_at (i := 1085) (by decide +kernel) rfl
set_option maxRecDepth 100000 in
theorem mf_Mo_orNone : MF M_Mo_orNone 1 := ⟨G_at (i := 1378) (by decide +kernel) rfl, ii_Mo, by decide +kernel, by decide, by decide +kernel⟩
set_option maxRecDepth 100000 in
theorem ms_Mo_orNone : MS M_Mo_orNone := G_at (i := 1377) (by decide +kernel) rfl
set_option maxRecDepth 100000 in
theorem mf_Mo_becomes : MF M_Mo_becomes 2 := ⟨G_at (i := 1156) (by decide +kernel) rfl, ii_Mo, by decide +kernel, by decide, by decide +kernel⟩
set_option maxRecDepth 100000 in
theorem mv_Mo_becomes : MV M_Mo_becomes := ⟨G_at (i := 1155) (by decide +kernel) rfl, G_at (i := 36) (by decide +kernel) rfl⟩
set_option maxRecDepth 100000 in
theorem mf_Mo_partAt : MF M_Mo_partAt 1 := ⟨G_at (i := 1112) (by decide +kernel) rfl, ii_Mo, by decide +kernel, by decide, by decide +kernel⟩
set_option maxRecDepth 100000 in
theorem mv_Mo_partAt : MV M_Mo_partAt := ⟨G_at (i := 1111) (by decide +kernel) rfl, G_at (i := 30) (by decide +kernel) rfl⟩
set_option maxRecDepth 100000 in
theorem mf_Mo_textAt : MF M_Mo_textAt 1 := ⟨G_at (i := 1281) (by decide +kernel) rfl, ii_Mo, by decide +kernel, by decide, by decide +kernel⟩
set_option maxRecDepth 100000 in
theorem mv_Mo_textAt : MV M_Mo_textAt := ⟨G_at (i := 1280) (by decide +kernel) rfl, G_at (i := 58) (by decide +kernel) rfl⟩
set_option maxRecDepth 100000 in
theorem mf_Mo_isPart : MF M_Mo_isPart 1 := ⟨G_at (i := 1120) (by decide +kernel) rfl, ii_Mo, by decide +kernel, by decide, by decide +kernel⟩
set_option maxRecDepth 100000 in
theorem mv_Mo_isPart : MV M_Mo_isPart := ⟨G_at (i := 1119) (by decide +kernel) rfl, G_at (i := 31) (by decide +kernel) rfl⟩
set_option maxRecDepth 100000 in
theorem mf_Mo_isBond : MF M_Mo_isBond 1 := ⟨G_at (i := 1168) (by decide +kernel) rfl, ii_Mo, by decide +kernel, by decide, by decide +kernel⟩
set_option maxRecDepth 100000 in
theorem mv_Mo_isBond : MV M_Mo_isBond := ⟨G_at (i := 1167) (by decide +kernel) rfl, G_at (i := 37) (by decide +kernel) rfl⟩
set_option maxRecDepth 100000 in
theorem mf_Mo_isText : MF M_Mo_isText 1 := ⟨G_at (i := 1371) (by decide +kernel) rfl, ii_Mo, by decide +kernel, by decide, by decide +kernel⟩
set_option maxRecDepth 100000 in
theorem mv_Mo_isText : MV M_Mo_isText := ⟨G_at (i := 1370) (by decide +kernel) rfl, G_at (i := 74) (by decide +kernel) rfl⟩
set_option maxRecDepth 100000 in
theorem mf_Mo_kindOf : MF M_Mo_kindOf 1 := ⟨G_at (i := 1136) (by decide +kernel) rfl, ii_Mo, by decide +kernel, by decide, by decide +kernel⟩
set_option maxRecDepth 100000 in
theorem mv_Mo_kindOf : MV M_Mo_kindOf := ⟨G_at (i := 1135) (by decide +kernel) rfl, G_at (i := 35) (by decide +kernel) rfl⟩
set_option maxRecDepth 100000 in
theorem mf_Mo_sortOf : MF M_Mo_sortOf 1 := ⟨G_at (i := 1200) (by decide +kernel) rfl, ii_Mo, by decide +kernel, by decide, by decide +kernel⟩
set_option maxRecDepth 100000 in
theorem mv_Mo_sortOf : MV M_Mo_sortOf := ⟨G_at (i := 1199) (by decide +kernel) rfl, G_at (i := 43) (by decide +kernel) rfl⟩
set_option maxRecDepth 100000 in
theorem mf_Mo_worthOf : MF M_Mo_worthOf 1 := ⟨G_at (i := 1090) (by decide +kernel) rfl, ii_Mo, by decide +kernel, by decide, by decide +kernel⟩
set_option maxRecDepth 100000 in
theorem ms_Mo_worthOf : MS M_Mo_worthOf := G_at (i := 1089) (by decide +kernel) rfl
set_option maxRecDepth 100000 in
theorem mf_Mo_over : MF M_Mo_over 1 := ⟨G_at (i := 1095) (by decide +kernel) rfl, ii_Mo, by decide +kernel, by decide, by decide +kernel⟩
set_option maxRecDepth 100000 in
theorem ms_Mo_over : MS M_Mo_over := G_at (i := 1094) (by decide +kernel) rfl
set_option maxRecDepth 100000 in
theorem mf_Mo_worth : MF M_Mo_worth 3 := ⟨G_at (i := 1083) (by decide +kernel) rfl, ii_Mo, by decide +kernel, by decide, by decide +kernel⟩
set_option maxRecDepth 100000 in
theorem mv_Mo_worth : MV M_Mo_worth := ⟨G_at (i := 1081) (by decide +kernel) rfl, G_at (i := 1082) (by decide +kernel) rfl⟩
set_option maxRecDepth 100000 in
theorem mf_Mo_isShare : MF M_Mo_isShare 1 := ⟨G_at (i := 1105) (by decide +kernel) rfl, ii_Mo, by decide +kernel, by decide, by decide +kernel⟩
set_option maxRecDepth 100000 in
theorem ms_Mo_isShare : MS M_Mo_isShare := G_at (i := 1104) (by decide +kernel) rfl
set_option maxRecDepth 100000 in
theorem mf_Mo_shareOf : MF M_Mo_shareOf 2 := ⟨G_at (i := 1139) (by decide +kernel) rfl, ii_Mo, by decide +kernel, by decide, by decide +kernel⟩
set_option maxRecDepth 100000 in
theorem ms_Mo_shareOf : MS M_Mo_shareOf := G_at (i := 1138) (by decide +kernel) rfl
set_option maxRecDepth 100000 in
theorem mf_Mo_part : MF M_Mo_part 3 := ⟨G_at (i := 1101) (by decide +kernel) rfl, ii_Mo, by decide +kernel, by decide, by decide +kernel⟩
set_option maxRecDepth 100000 in
theorem mv_Mo_part : MV M_Mo_part := ⟨G_at (i := 1099) (by decide +kernel) rfl, G_at (i := 1100) (by decide +kernel) rfl⟩
set_option maxRecDepth 100000 in
theorem mf_Mo_comes : MF M_Mo_comes 2 := ⟨G_at (i := 1128) (by decide +kernel) rfl, ii_Mo, by decide +kernel, by decide, by decide +kernel⟩
set_option maxRecDepth 100000 in
theorem mv_Mo_comes : MV M_Mo_comes := ⟨G_at (i := 1127) (by decide +kernel) rfl, G_at (i := 33) (by decide +kernel) rfl⟩
set_option maxRecDepth 100000 in
theorem mf_Mo_endsOf : MF M_Mo_endsOf 1 := ⟨G_at (i := 1124) (by decide +kernel) rfl, ii_Mo, by decide +kernel, by decide, by decide +kernel⟩
set_option maxRecDepth 100000 in
theorem mv_Mo_endsOf : MV M_Mo_endsOf := ⟨G_at (i := 1123) (by decide +kernel) rfl, G_at (i := 32) (by decide +kernel) rfl⟩
set_option maxRecDepth 100000 in
theorem mf_Mo_hasEnds : MF M_Mo_hasEnds 1 := ⟨G_at (i := 1132) (by decide +kernel) rfl, ii_Mo, by decide +kernel, by decide, by decide +kernel⟩
set_option maxRecDepth 100000 in
theorem mv_Mo_hasEnds : MV M_Mo_hasEnds := ⟨G_at (i := 1131) (by decide +kernel) rfl, G_at (i := 34) (by decide +kernel) rfl⟩
set_option maxRecDepth 100000 in
theorem mf_Mo_isWhole : MF M_Mo_isWhole 0 := ⟨G_at (i := 1176) (by decide +kernel) rfl, ii_Mo, by decide +kernel, by decide, by decide +kernel⟩
set_option maxRecDepth 100000 in
theorem mv_Mo_isWhole : MV M_Mo_isWhole := ⟨G_at (i := 1175) (by decide +kernel) rfl, G_at (i := 38) (by decide +kernel) rfl⟩
set_option maxRecDepth 100000 in
theorem mf_Mo_told : MF M_Mo_told 2 := ⟨G_at (i := 1116) (by decide +kernel) rfl, ii_Mo, by decide +kernel, by decide, by decide +kernel⟩
set_option maxRecDepth 100000 in
theorem mv_Mo_told : MV M_Mo_told := ⟨G_at (i := 1114) (by decide +kernel) rfl, G_at (i := 1115) (by decide +kernel) rfl⟩
set_option maxRecDepth 100000 in
theorem mf_Mo_isOf : MF M_Mo_isOf 2 := ⟨G_at (i := 1146) (by decide +kernel) rfl, ii_Mo, by decide +kernel, by decide, by decide +kernel⟩
set_option maxRecDepth 100000 in
theorem ms_Mo_isOf : MS M_Mo_isOf := G_at (i := 1145) (by decide +kernel) rfl
set_option maxRecDepth 100000 in
theorem mf_Mo_as : MF M_Mo_as 2 := ⟨G_at (i := 1143) (by decide +kernel) rfl, ii_Mo, by decide +kernel, by decide, by decide +kernel⟩
set_option maxRecDepth 100000 in
theorem mv_Mo_as : MV M_Mo_as := ⟨G_at (i := 1141) (by decide +kernel) rfl, G_at (i := 1142) (by decide +kernel) rfl⟩
set_option maxRecDepth 100000 in
theorem mf_Mo_set : MF M_Mo_set 3 := ⟨G_at (i := 1151) (by decide +kernel) rfl, ii_Mo, by decide +kernel, by decide, by decide +kernel⟩
set_option maxRecDepth 100000 in
theorem mv_Mo_set : MV M_Mo_set := ⟨G_at (i := 1149) (by decide +kernel) rfl, G_at (i := 1150) (by decide +kernel) rfl⟩
set_option maxRecDepth 100000 in
theorem mf_Mo_bond : MF M_Mo_bond 2 := ⟨G_at (i := 1160) (by decide +kernel) rfl, ii_Mo, by decide +kernel, by decide, by decide +kernel⟩
set_option maxRecDepth 100000 in
theorem mv_Mo_bond : MV M_Mo_bond := ⟨G_at (i := 1158) (by decide +kernel) rfl, G_at (i := 1159) (by decide +kernel) rfl⟩
set_option maxRecDepth 100000 in
theorem mf_Mo_breaks : MF M_Mo_breaks 1 := ⟨G_at (i := 1164) (by decide +kernel) rfl, ii_Mo, by decide +kernel, by decide, by decide +kernel⟩
set_option maxRecDepth 100000 in
theorem mv_Mo_breaks : MV M_Mo_breaks := ⟨G_at (i := 1162) (by decide +kernel) rfl, G_at (i := 1163) (by decide +kernel) rfl⟩
set_option maxRecDepth 100000 in
theorem mf_Mo_whole : MF M_Mo_whole 0 := ⟨G_at (i := 1172) (by decide +kernel) rfl, ii_Mo, by decide +kernel, by decide, by decide +kernel⟩
set_option maxRecDepth 100000 in
theorem mv_Mo_whole : MV M_Mo_whole := ⟨G_at (i := 1170) (by decide +kernel) rfl, G_at (i := 1171) (by decide +kernel) rfl⟩
set_option maxRecDepth 100000 in
theorem mf_Mo_line : MF M_Mo_line 0 := ⟨G_at (i := 1204) (by decide +kernel) rfl, ii_Mo, by decide +kernel, by decide, by decide +kernel⟩
set_option maxRecDepth 100000 in
theorem mv_Mo_line : MV M_Mo_line := ⟨G_at (i := 1203) (by decide +kernel) rfl, G_at (i := 44) (by decide +kernel) rfl⟩
set_option maxRecDepth 100000 in
theorem mf_Mo_put : MF M_Mo_put 3 := ⟨G_at (i := 1208) (by decide +kernel) rfl, ii_Mo, by decide +kernel, by decide, by decide +kernel⟩
set_option maxRecDepth 100000 in
theorem mv_Mo_put : MV M_Mo_put := ⟨G_at (i := 1207) (by decide +kernel) rfl, G_at (i := 45) (by decide +kernel) rfl⟩
set_option maxRecDepth 100000 in
theorem mf_Mo_comesTo : MF M_Mo_comesTo 1 := ⟨G_at (i := 1217) (by decide +kernel) rfl, ii_Mo, by decide +kernel, by decide, by decide +kernel⟩
set_option maxRecDepth 100000 in
theorem mv_Mo_comesTo : MV M_Mo_comesTo := ⟨G_at (i := 1216) (by decide +kernel) rfl, G_at (i := 47) (by decide +kernel) rfl⟩
set_option maxRecDepth 100000 in
theorem mf_Mo_bondOf : MF M_Mo_bondOf 2 := ⟨G_at (i := 1196) (by decide +kernel) rfl, ii_Mo, by decide +kernel, by decide, by decide +kernel⟩
set_option maxRecDepth 100000 in
theorem mv_Mo_bondOf : MV M_Mo_bondOf := ⟨G_at (i := 1195) (by decide +kernel) rfl, G_at (i := 42) (by decide +kernel) rfl⟩
set_option maxRecDepth 100000 in
theorem mf_Mo_lawsOfTurn : MF M_Mo_lawsOfTurn 2 := ⟨G_at (i := 1192) (by decide +kernel) rfl, ii_Mo, by decide +kernel, by decide, by decide +kernel⟩
set_option maxRecDepth 100000 in
theorem mv_Mo_lawsOfTurn : MV M_Mo_lawsOfTurn := ⟨G_at (i := 1191) (by decide +kernel) rfl, G_at (i := 41) (by decide +kernel) rfl⟩
set_option maxRecDepth 100000 in
theorem mf_Mo_lawsOfJoin : MF M_Mo_lawsOfJoin 1 := ⟨G_at (i := 1212) (by decide +kernel) rfl, ii_Mo, by decide +kernel, by decide, by decide +kernel⟩
set_option maxRecDepth 100000 in
theorem mv_Mo_lawsOfJoin : MV M_Mo_lawsOfJoin := ⟨G_at (i := 1211) (by decide +kernel) rfl, G_at (i := 46) (by decide +kernel) rfl⟩
set_option maxRecDepth 100000 in
theorem mf_Mo_lawsOf : MF M_Mo_lawsOf 1 := ⟨G_at (i := 1188) (by decide +kernel) rfl, ii_Mo, by decide +kernel, by decide, by decide +kernel⟩
set_option maxRecDepth 100000 in
theorem mv_Mo_lawsOf : MV M_Mo_lawsOf := ⟨G_at (i := 1187) (by decide +kernel) rfl, G_at (i := 40) (by decide +kernel) rfl⟩
set_option maxRecDepth 100000 in
theorem mf_Mo_swap : MF M_Mo_swap 2 := ⟨G_at (i := 1221) (by decide +kernel) rfl, ii_Mo, by decide +kernel, by decide, by decide +kernel⟩
set_option maxRecDepth 100000 in
theorem mv_Mo_swap : MV M_Mo_swap := ⟨G_at (i := 1220) (by decide +kernel) rfl, G_at (i := 48) (by decide +kernel) rfl⟩
set_option maxRecDepth 100000 in
theorem mf_Mo_solve : MF M_Mo_solve 0 := ⟨G_at (i := 1184) (by decide +kernel) rfl, ii_Mo, by decide +kernel, by decide, by decide +kernel⟩
set_option maxRecDepth 100000 in
theorem mv_Mo_solve : MV M_Mo_solve := ⟨G_at (i := 1183) (by decide +kernel) rfl, G_at (i := 39) (by decide +kernel) rfl⟩
set_option maxRecDepth 100000 in
theorem mf_Mo_answers : MF M_Mo_answers 0 := ⟨G_at (i := 1180) (by decide +kernel) rfl, ii_Mo, by decide +kernel, by decide, by decide +kernel⟩
set_option maxRecDepth 100000 in
theorem mv_Mo_answers : MV M_Mo_answers := ⟨G_at (i := 1178) (by decide +kernel) rfl, G_at (i := 1179) (by decide +kernel) rfl⟩
set_option maxRecDepth 100000 in
theorem mf_Mo_of : MF M_Mo_of 2 := ⟨G_at (i := 1226) (by decide +kernel) rfl, ii_Mo, by decide +kernel, by decide, by decide +kernel⟩
set_option maxRecDepth 100000 in
theorem mv_Mo_of : MV M_Mo_of := ⟨G_at (i := 1224) (by decide +kernel) rfl, G_at (i := 1225) (by decide +kernel) rfl⟩
set_option maxRecDepth 100000 in
theorem mf_Mo_settles : MF M_Mo_settles 2 := ⟨G_at (i := 1238) (by decide +kernel) rfl, ii_Mo, by decide +kernel, by decide, by decide +kernel⟩
set_option maxRecDepth 100000 in
theorem mv_Mo_settles : MV M_Mo_settles := ⟨G_at (i := 1237) (by decide +kernel) rfl, G_at (i := 50) (by decide +kernel) rfl⟩
set_option maxRecDepth 100000 in
theorem mf_Mo_canBe : MF M_Mo_canBe 1 := ⟨G_at (i := 1234) (by decide +kernel) rfl, ii_Mo, by decide +kernel, by decide, by decide +kernel⟩
set_option maxRecDepth 100000 in
theorem mv_Mo_canBe : MV M_Mo_canBe := ⟨G_at (i := 1233) (by decide +kernel) rfl, G_at (i := 49) (by decide +kernel) rfl⟩
set_option maxRecDepth 100000 in
theorem mf_Mo_sums : MF M_Mo_sums 2 := ⟨G_at (i := 1246) (by decide +kernel) rfl, ii_Mo, by decide +kernel, by decide, by decide +kernel⟩
set_option maxRecDepth 100000 in
theorem mv_Mo_sums : MV M_Mo_sums := ⟨G_at (i := 1245) (by decide +kernel) rfl, G_at (i := 52) (by decide +kernel) rfl⟩
set_option maxRecDepth 100000 in
theorem mf_Mo_summing : MF M_Mo_summing 1 := ⟨G_at (i := 1242) (by decide +kernel) rfl, ii_Mo, by decide +kernel, by decide, by decide +kernel⟩
set_option maxRecDepth 100000 in
theorem mv_Mo_summing : MV M_Mo_summing := ⟨G_at (i := 1241) (by decide +kernel) rfl, G_at (i := 51) (by decide +kernel) rfl⟩
set_option maxRecDepth 100000 in
theorem mf_Mo_tied : MF M_Mo_tied 1 := ⟨G_at (i := 1251) (by decide +kernel) rfl, ii_Mo, by decide +kernel, by decide, by decide +kernel⟩
set_option maxRecDepth 100000 in
theorem mv_Mo_tied : MV M_Mo_tied := ⟨G_at (i := 1250) (by decide +kernel) rfl, G_at (i := 53) (by decide +kernel) rfl⟩
set_option maxRecDepth 100000 in
theorem mf_Mo_strokes : MF M_Mo_strokes 1 := ⟨G_at (i := 1230) (by decide +kernel) rfl, ii_Mo, by decide +kernel, by decide, by decide +kernel⟩
set_option maxRecDepth 100000 in
theorem mv_Mo_strokes : MV M_Mo_strokes := ⟨G_at (i := 1228) (by decide +kernel) rfl, G_at (i := 1229) (by decide +kernel) rfl⟩
set_option maxRecDepth 100000 in
theorem mf_Mo_can : MF M_Mo_can 1 := ⟨G_at (i := 1256) (by decide +kernel) rfl, ii_Mo, by decide +kernel, by decide, by decide +kernel⟩
set_option maxRecDepth 100000 in
theorem mv_Mo_can : MV M_Mo_can := ⟨G_at (i := 1254) (by decide +kernel) rfl, G_at (i := 1255) (by decide +kernel) rfl⟩
set_option maxRecDepth 100000 in
theorem mf_Mo_counts : MF M_Mo_counts 1 := ⟨G_at (i := 1277) (by decide +kernel) rfl, ii_Mo, by decide +kernel, by decide, by decide +kernel⟩
set_option maxRecDepth 100000 in
theorem mv_Mo_counts : MV M_Mo_counts := ⟨G_at (i := 1276) (by decide +kernel) rfl, G_at (i := 57) (by decide +kernel) rfl⟩
set_option maxRecDepth 100000 in
theorem mf_Mo_gives : MF M_Mo_gives 1 := ⟨G_at (i := 1273) (by decide +kernel) rfl, ii_Mo, by decide +kernel, by decide, by decide +kernel⟩
set_option maxRecDepth 100000 in
theorem mv_Mo_gives : MV M_Mo_gives := ⟨G_at (i := 1272) (by decide +kernel) rfl, G_at (i := 56) (by decide +kernel) rfl⟩
set_option maxRecDepth 100000 in
theorem mf_Mo_oneStep : MF M_Mo_oneStep 0 := ⟨G_at (i := 1269) (by decide +kernel) rfl, ii_Mo, by decide +kernel, by decide, by decide +kernel⟩
set_option maxRecDepth 100000 in
theorem mv_Mo_oneStep : MV M_Mo_oneStep := ⟨G_at (i := 1268) (by decide +kernel) rfl, G_at (i := 55) (by decide +kernel) rfl⟩
set_option maxRecDepth 100000 in
theorem mf_Mo_setAside : MF M_Mo_setAside 2 := ⟨G_at (i := 1265) (by decide +kernel) rfl, ii_Mo, by decide +kernel, by decide, by decide +kernel⟩
set_option maxRecDepth 100000 in
theorem mv_Mo_setAside : MV M_Mo_setAside := ⟨G_at (i := 1264) (by decide +kernel) rfl, G_at (i := 54) (by decide +kernel) rfl⟩
set_option maxRecDepth 100000 in
theorem mf_Mo_run : MF M_Mo_run 1 := ⟨G_at (i := 1260) (by decide +kernel) rfl, ii_Mo, by decide +kernel, by decide, by decide +kernel⟩
set_option maxRecDepth 100000 in
theorem mv_Mo_run : MV M_Mo_run := ⟨G_at (i := 1258) (by decide +kernel) rfl, G_at (i := 1259) (by decide +kernel) rfl⟩
set_option maxRecDepth 100000 in
theorem mf_Mo_feed : MF M_Mo_feed 3 := ⟨G_at (i := 1292) (by decide +kernel) rfl, ii_Mo, by decide +kernel, by decide, by decide +kernel⟩
set_option maxRecDepth 100000 in
theorem mv_Mo_feed : MV M_Mo_feed := ⟨G_at (i := 1290) (by decide +kernel) rfl, G_at (i := 1291) (by decide +kernel) rfl⟩
set_option maxRecDepth 100000 in
theorem mf_Mo_trim : MF M_Mo_trim 1 := ⟨G_at (i := 1296) (by decide +kernel) rfl, ii_Mo, by decide +kernel, by decide, by decide +kernel⟩
set_option maxRecDepth 100000 in
theorem mv_Mo_trim : MV M_Mo_trim := ⟨G_at (i := 1294) (by decide +kernel) rfl, G_at (i := 1295) (by decide +kernel) rfl⟩
set_option maxRecDepth 100000 in
theorem mf_Mo_isLetter : MF M_Mo_isLetter 1 := ⟨G_at (i := 1312) (by decide +kernel) rfl, ii_Mo, by decide +kernel, by decide, by decide +kernel⟩
set_option maxRecDepth 100000 in
theorem mv_Mo_isLetter : MV M_Mo_isLetter := ⟨G_at (i := 1311) (by decide +kernel) rfl, G_at (i := 62) (by decide +kernel) rfl⟩
set_option maxRecDepth 100000 in
theorem mf_Mo_isDigit : MF M_Mo_isDigit 1 := ⟨G_at (i := 1318) (by decide +kernel) rfl, ii_Mo, by decide +kernel, by decide, by decide +kernel⟩
set_option maxRecDepth 100000 in
theorem mv_Mo_isDigit : MV M_Mo_isDigit := ⟨G_at (i := 1317) (by decide +kernel) rfl, G_at (i := 63) (by decide +kernel) rfl⟩
set_option maxRecDepth 100000 in
theorem mf_Mo_next : MF M_Mo_next 0 := ⟨G_at (i := 1308) (by decide +kernel) rfl, ii_Mo, by decide +kernel, by decide, by decide +kernel⟩
set_option maxRecDepth 100000 in
theorem mv_Mo_next : MV M_Mo_next := ⟨G_at (i := 1307) (by decide +kernel) rfl, G_at (i := 61) (by decide +kernel) rfl⟩
set_option maxRecDepth 100000 in
theorem mf_Mo_isSign : MF M_Mo_isSign 1 := ⟨G_at (i := 1363) (by decide +kernel) rfl, ii_Mo, by decide +kernel, by decide, by decide +kernel⟩
set_option maxRecDepth 100000 in
theorem mv_Mo_isSign : MV M_Mo_isSign := ⟨G_at (i := 1362) (by decide +kernel) rfl, G_at (i := 73) (by decide +kernel) rfl⟩
set_option maxRecDepth 100000 in
theorem mf_Mo_isWordAt : MF M_Mo_isWordAt 4 := ⟨G_at (i := 1328) (by decide +kernel) rfl, ii_Mo, by decide +kernel, by decide, by decide +kernel⟩
set_option maxRecDepth 100000 in
theorem mv_Mo_isWordAt : MV M_Mo_isWordAt := ⟨G_at (i := 1327) (by decide +kernel) rfl, G_at (i := 65) (by decide +kernel) rfl⟩
set_option maxRecDepth 100000 in
theorem mf_Mo_key : MF M_Mo_key 0 := ⟨G_at (i := 1324) (by decide +kernel) rfl, ii_Mo, by decide +kernel, by decide, by decide +kernel⟩
set_option maxRecDepth 100000 in
theorem mv_Mo_key : MV M_Mo_key := ⟨G_at (i := 1323) (by decide +kernel) rfl, G_at (i := 64) (by decide +kernel) rfl⟩
set_option maxRecDepth 100000 in
theorem mf_Mo_isName : MF M_Mo_isName 2 := ⟨G_at (i := 1359) (by decide +kernel) rfl, ii_Mo, by decide +kernel, by decide, by decide +kernel⟩
set_option maxRecDepth 100000 in
theorem ms_Mo_isName : MS M_Mo_isName := G_at (i := 1358) (by decide +kernel) rfl
set_option maxRecDepth 100000 in
theorem mf_Mo_step : MF M_Mo_step 2 := ⟨G_at (i := 1356) (by decide +kernel) rfl, ii_Mo, by decide +kernel, by decide, by decide +kernel⟩
set_option maxRecDepth 100000 in
theorem mv_Mo_step : MV M_Mo_step := ⟨G_at (i := 1355) (by decide +kernel) rfl, G_at (i := 72) (by decide +kernel) rfl⟩
set_option maxRecDepth 100000 in
theorem mf_Mo_either : MF M_Mo_either 1 := ⟨G_at (i := 1332) (by decide +kernel) rfl, ii_Mo, by decide +kernel, by decide, by decide +kernel⟩
set_option maxRecDepth 100000 in
theorem mv_Mo_either : MV M_Mo_either := ⟨G_at (i := 1331) (by decide +kernel) rfl, G_at (i := 66) (by decide +kernel) rfl⟩
set_option maxRecDepth 100000 in
theorem mf_Mo_both : MF M_Mo_both 1 := ⟨G_at (i := 1336) (by decide +kernel) rfl, ii_Mo, by decide +kernel, by decide, by decide +kernel⟩
set_option maxRecDepth 100000 in
theorem mv_Mo_both : MV M_Mo_both := ⟨G_at (i := 1335) (by decide +kernel) rfl, G_at (i := 67) (by decide +kernel) rfl⟩
set_option maxRecDepth 100000 in
theorem mf_Mo_test : MF M_Mo_test 1 := ⟨G_at (i := 1340) (by decide +kernel) rfl, ii_Mo, by decide +kernel, by decide, by decide +kernel⟩
set_option maxRecDepth 100000 in
theorem mv_Mo_test : MV M_Mo_test := ⟨G_at (i := 1339) (by decide +kernel) rfl, G_at (i := 68) (by decide +kernel) rfl⟩
set_option maxRecDepth 100000 in
theorem mf_Mo_sum : MF M_Mo_sum 1 := ⟨G_at (i := 1344) (by decide +kernel) rfl, ii_Mo, by decide +kernel, by decide, by decide +kernel⟩
set_option maxRecDepth 100000 in
theorem mv_Mo_sum : MV M_Mo_sum := ⟨G_at (i := 1343) (by decide +kernel) rfl, G_at (i := 69) (by decide +kernel) rfl⟩
set_option maxRecDepth 100000 in
theorem mf_Mo_term : MF M_Mo_term 1 := ⟨G_at (i := 1348) (by decide +kernel) rfl, ii_Mo, by decide +kernel, by decide, by decide +kernel⟩
set_option maxRecDepth 100000 in
theorem mv_Mo_term : MV M_Mo_term := ⟨G_at (i := 1347) (by decide +kernel) rfl, G_at (i := 70) (by decide +kernel) rfl⟩
set_option maxRecDepth 100000 in
theorem mf_Mo_part0 : MF M_Mo_part0 1 := ⟨G_at (i := 1352) (by decide +kernel) rfl, ii_Mo, by decide +kernel, by decide, by decide +kernel⟩
set_option maxRecDepth 100000 in
theorem mv_Mo_part0 : MV M_Mo_part0 := ⟨G_at (i := 1351) (by decide +kernel) rfl, G_at (i := 71) (by decide +kernel) rfl⟩
set_option maxRecDepth 100000 in
theorem mf_Mo_parse : MF M_Mo_parse 0 := ⟨G_at (i := 1304) (by decide +kernel) rfl, ii_Mo, by decide +kernel, by decide, by decide +kernel⟩
set_option maxRecDepth 100000 in
theorem mv_Mo_parse : MV M_Mo_parse := ⟨G_at (i := 1303) (by decide +kernel) rfl, G_at (i := 60) (by decide +kernel) rfl⟩
set_option maxRecDepth 100000 in
theorem mf_Mo_text : MF M_Mo_text 0 := ⟨G_at (i := 1300) (by decide +kernel) rfl, ii_Mo, by decide +kernel, by decide, by decide +kernel⟩
set_option maxRecDepth 100000 in
theorem mv_Mo_text : MV M_Mo_text := ⟨G_at (i := 1298) (by decide +kernel) rfl, G_at (i := 1299) (by decide +kernel) rfl⟩
set_option maxRecDepth 100000 in
theorem mf_Mo_textTold : MF M_Mo_textTold 2 := ⟨G_at (i := 1367) (by decide +kernel) rfl, ii_Mo, by decide +kernel, by decide, by decide +kernel⟩
set_option maxRecDepth 100000 in
theorem mv_Mo_textTold : MV M_Mo_textTold := ⟨G_at (i := 1365) (by decide +kernel) rfl, G_at (i := 1366) (by decide +kernel) rfl⟩
set_option maxRecDepth 100000 in
theorem mf_Mo_why : MF M_Mo_why 2 := ⟨G_at (i := 1375) (by decide +kernel) rfl, ii_Mo, by decide +kernel, by decide, by decide +kernel⟩
set_option maxRecDepth 100000 in
theorem mv_Mo_why : MV M_Mo_why := ⟨G_at (i := 1373) (by decide +kernel) rfl, G_at (i := 1374) (by decide +kernel) rfl⟩
set_option maxRecDepth 100000 in
theorem mf_Mo_joined : MF M_Mo_joined 3 := ⟨G_at (i := 1288) (by decide +kernel) rfl, ii_Mo, by decide +kernel, by decide, by decide +kernel⟩
set_option maxRecDepth 100000 in
theorem ms_Mo_joined : MS M_Mo_joined := G_at (i := 1287) (by decide +kernel) rfl
set_option maxRecDepth 100000 in
theorem mf_Mo_worked : MF M_Mo_worked 1 := ⟨G_at (i := 1285) (by decide +kernel) rfl, ii_Mo, by decide +kernel, by decide, by decide +kernel⟩
set_option maxRecDepth 100000 in
theorem mv_Mo_worked : MV M_Mo_worked := ⟨G_at (i := 1284) (by decide +kernel) rfl, G_at (i := 59) (by decide +kernel) rfl⟩
set_option maxRecDepth 100000 in
theorem mf_Mo_read : MF M_Mo_read 1 := ⟨G_at (i := 1383) (by decide +kernel) rfl, ii_Mo, by decide +kernel, by decide, by decide +kernel⟩
set_option maxRecDepth 100000 in
theorem mv_Mo_read : MV M_Mo_read := ⟨G_at (i := 1381) (by decide +kernel) rfl, G_at (i := 1382) (by decide +kernel) rfl⟩
set_option maxRecDepth 100000 in
theorem mf_Mo_moves : MF M_Mo_moves 3 := ⟨G_at (i := 1387) (by decide +kernel) rfl, ii_Mo, by decide +kernel, by decide, by decide +kernel⟩
set_option maxRecDepth 100000 in
theorem mv_Mo_moves : MV M_Mo_moves := ⟨G_at (i := 1385) (by decide +kernel) rfl, G_at (i := 1386) (by decide +kernel) rfl⟩
set_option maxRecDepth 100000 in
theorem mf_Mo_signs : MF M_Mo_signs 1 := ⟨G_at (i := 1391) (by decide +kernel) rfl, ii_Mo, by decide +kernel, by decide, by decide +kernel⟩
set_option maxRecDepth 100000 in
theorem mv_Mo_signs : MV M_Mo_signs := ⟨G_at (i := 1389) (by decide +kernel) rfl, G_at (i := 1390) (by decide +kernel) rfl⟩
set_option maxRecDepth 100000 in
theorem mf_Mo_apart : MF M_Mo_apart 2 := ⟨G_at (i := 1395) (by decide +kernel) rfl, ii_Mo, by decide +kernel, by decide, by decide +kernel⟩
set_option maxRecDepth 100000 in
theorem mv_Mo_apart : MV M_Mo_apart := ⟨G_at (i := 1393) (by decide +kernel) rfl, G_at (i := 1394) (by decide +kernel) rfl⟩
set_option maxRecDepth 100000 in
theorem mf_Mo_dual : MF M_Mo_dual 0 := ⟨G_at (i := 1400) (by decide +kernel) rfl, ii_Mo, by decide +kernel, by decide, by decide +kernel⟩
set_option maxRecDepth 100000 in
theorem mv_Mo_dual : MV M_Mo_dual := ⟨G_at (i := 1398) (by decide +kernel) rfl, G_at (i := 1399) (by decide +kernel) rfl⟩
set_option maxRecDepth 100000 in
theorem mf_Mo_findWays : MF M_Mo_findWays 1 := ⟨G_at (i := 1408) (by decide +kernel) rfl, ii_Mo, by decide +kernel, by decide, by decide +kernel⟩
set_option maxRecDepth 100000 in
theorem mv_Mo_findWays : MV M_Mo_findWays := ⟨G_at (i := 1407) (by decide +kernel) rfl, G_at (i := 75) (by decide +kernel) rfl⟩
set_option maxRecDepth 100000 in
theorem mf_Mo_rings : MF M_Mo_rings 0 := ⟨G_at (i := 1404) (by decide +kernel) rfl, ii_Mo, by decide +kernel, by decide, by decide +kernel⟩
set_option maxRecDepth 100000 in
theorem mv_Mo_rings : MV M_Mo_rings := ⟨G_at (i := 1402) (by decide +kernel) rfl, G_at (i := 1403) (by decide +kernel) rfl⟩
set_option maxRecDepth 100000 in
theorem mf_Mo_way : MF M_Mo_way 2 := ⟨G_at (i := 1412) (by decide +kernel) rfl, ii_Mo, by decide +kernel, by decide, by decide +kernel⟩
set_option maxRecDepth 100000 in
theorem mv_Mo_way : MV M_Mo_way := ⟨G_at (i := 1410) (by decide +kernel) rfl, G_at (i := 1411) (by decide +kernel) rfl⟩
set_option maxRecDepth 100000 in
theorem mf_Mo_isSheet : MF M_Mo_isSheet 1 := ⟨G_at (i := 1419) (by decide +kernel) rfl, ii_Mo, by decide +kernel, by decide, by decide +kernel⟩
set_option maxRecDepth 100000 in
theorem ms_Mo_isSheet : MS M_Mo_isSheet := G_at (i := 1418) (by decide +kernel) rfl
set_option maxRecDepth 100000 in
theorem mf_Mo_sheet : MF M_Mo_sheet 3 := ⟨G_at (i := 1416) (by decide +kernel) rfl, ii_Mo, by decide +kernel, by decide, by decide +kernel⟩
set_option maxRecDepth 100000 in
theorem mv_Mo_sheet : MV M_Mo_sheet := ⟨G_at (i := 1414) (by decide +kernel) rfl, G_at (i := 1415) (by decide +kernel) rfl⟩
set_option maxRecDepth 100000 in
theorem mf_Mo_mark : MF M_Mo_mark 3 := ⟨G_at (i := 1424) (by decide +kernel) rfl, ii_Mo, by decide +kernel, by decide, by decide +kernel⟩
set_option maxRecDepth 100000 in
theorem mv_Mo_mark : MV M_Mo_mark := ⟨G_at (i := 1422) (by decide +kernel) rfl, G_at (i := 1423) (by decide +kernel) rfl⟩
set_option maxRecDepth 100000 in
theorem mf_Mo_pour : MF M_Mo_pour 1 := ⟨G_at (i := 1430) (by decide +kernel) rfl, ii_Mo, by decide +kernel, by decide, by decide +kernel⟩
set_option maxRecDepth 100000 in
theorem mv_Mo_pour : MV M_Mo_pour := ⟨G_at (i := 1428) (by decide +kernel) rfl, G_at (i := 1429) (by decide +kernel) rfl⟩
set_option maxRecDepth 100000 in
theorem mf_Mo_copy : MF M_Mo_copy 5 := ⟨G_at (i := 1434) (by decide +kernel) rfl, ii_Mo, by decide +kernel, by decide, by decide +kernel⟩
set_option maxRecDepth 100000 in
theorem mv_Mo_copy : MV M_Mo_copy := ⟨G_at (i := 1432) (by decide +kernel) rfl, G_at (i := 1433) (by decide +kernel) rfl⟩
set_option maxRecDepth 100000 in
theorem mf_Mo_isSlot : MF M_Mo_isSlot 1 := ⟨G_at (i := 1441) (by decide +kernel) rfl, ii_Mo, by decide +kernel, by decide, by decide +kernel⟩
set_option maxRecDepth 100000 in
theorem ms_Mo_isSlot : MS M_Mo_isSlot := G_at (i := 1440) (by decide +kernel) rfl
set_option maxRecDepth 100000 in
theorem mf_Mo_lay : MF M_Mo_lay 3 := ⟨G_at (i := 1438) (by decide +kernel) rfl, ii_Mo, by decide +kernel, by decide, by decide +kernel⟩
set_option maxRecDepth 100000 in
theorem mv_Mo_lay : MV M_Mo_lay := ⟨G_at (i := 1436) (by decide +kernel) rfl, G_at (i := 1437) (by decide +kernel) rfl⟩
set_option maxRecDepth 100000 in
theorem mf_Mo_ask : MF M_Mo_ask 2 := ⟨G_at (i := 1446) (by decide +kernel) rfl, ii_Mo, by decide +kernel, by decide, by decide +kernel⟩
set_option maxRecDepth 100000 in
theorem mv_Mo_ask : MV M_Mo_ask := ⟨G_at (i := 1444) (by decide +kernel) rfl, G_at (i := 1445) (by decide +kernel) rfl⟩
set_option maxRecDepth 100000 in
theorem mf_Mo_item : MF M_Mo_item 2 := ⟨G_at (i := 1450) (by decide +kernel) rfl, ii_Mo, by decide +kernel, by decide, by decide +kernel⟩
set_option maxRecDepth 100000 in
theorem mv_Mo_item : MV M_Mo_item := ⟨G_at (i := 1448) (by decide +kernel) rfl, G_at (i := 1449) (by decide +kernel) rfl⟩
set_option maxRecDepth 100000 in
theorem mf_Mo_rest : MF M_Mo_rest 2 := ⟨G_at (i := 1454) (by decide +kernel) rfl, ii_Mo, by decide +kernel, by decide, by decide +kernel⟩
set_option maxRecDepth 100000 in
theorem mv_Mo_rest : MV M_Mo_rest := ⟨G_at (i := 1452) (by decide +kernel) rfl, G_at (i := 1453) (by decide +kernel) rfl⟩
set_option maxRecDepth 100000 in
theorem mf_Mo_tell : MF M_Mo_tell 1 := ⟨G_at (i := 1458) (by decide +kernel) rfl, ii_Mo, by decide +kernel, by decide, by decide +kernel⟩
set_option maxRecDepth 100000 in
theorem mv_Mo_tell : MV M_Mo_tell := ⟨G_at (i := 1456) (by decide +kernel) rfl, G_at (i := 1457) (by decide +kernel) rfl⟩
set_option maxRecDepth 100000 in
theorem mf_Mo_holds : MF M_Mo_holds 0 := ⟨G_at (i := 1467) (by decide +kernel) rfl, ii_Mo, by decide +kernel, by decide, by decide +kernel⟩
set_option maxRecDepth 100000 in
theorem mv_Mo_holds : MV M_Mo_holds := ⟨G_at (i := 1466) (by decide +kernel) rfl, G_at (i := 76) (by decide +kernel) rfl⟩
set_option maxRecDepth 100000 in
theorem mf_Mo_check : MF M_Mo_check 1 := ⟨G_at (i := 1462) (by decide +kernel) rfl, ii_Mo, by decide +kernel, by decide, by decide +kernel⟩
set_option maxRecDepth 100000 in
theorem mv_Mo_check : MV M_Mo_check := ⟨G_at (i := 1460) (by decide +kernel) rfl, G_at (i := 1461) (by decide +kernel) rfl⟩
set_option maxRecDepth 100000 in
theorem mf_Mo_keep : MF M_Mo_keep 0 := ⟨G_at (i := 1471) (by decide +kernel) rfl, ii_Mo, by decide +kernel, by decide, by decide +kernel⟩
set_option maxRecDepth 100000 in
theorem mv_Mo_keep : MV M_Mo_keep := ⟨G_at (i := 1469) (by decide +kernel) rfl, G_at (i := 1470) (by decide +kernel) rfl⟩
set_option maxRecDepth 100000 in
theorem mf_Mo_back : MF M_Mo_back 0 := ⟨G_at (i := 1475) (by decide +kernel) rfl, ii_Mo, by decide +kernel, by decide, by decide +kernel⟩
set_option maxRecDepth 100000 in
theorem mv_Mo_back : MV M_Mo_back := ⟨G_at (i := 1473) (by decide +kernel) rfl, G_at (i := 1474) (by decide +kernel) rfl⟩
set_option maxRecDepth 100000 in
theorem mf_Mo_stores : MF M_Mo_stores 0 := ⟨G_at (i := 1483) (by decide +kernel) rfl, ii_Mo, by decide +kernel, by decide, by decide +kernel⟩
set_option maxRecDepth 100000 in
theorem mv_Mo_stores : MV M_Mo_stores := ⟨G_at (i := 1482) (by decide +kernel) rfl, G_at (i := 77) (by decide +kernel) rfl⟩
set_option maxRecDepth 100000 in
theorem mf_Mo_count : MF M_Mo_count 1 := ⟨G_at (i := 1479) (by decide +kernel) rfl, ii_Mo, by decide +kernel, by decide, by decide +kernel⟩
set_option maxRecDepth 100000 in
theorem mv_Mo_count : MV M_Mo_count := ⟨G_at (i := 1477) (by decide +kernel) rfl, G_at (i := 1478) (by decide +kernel) rfl⟩
set_option maxRecDepth 100000 in
theorem mf_Ji_bitCount : MF M_Ji_bitCount 1 := ⟨G_at (i := 497) (by decide +kernel) rfl, ii_Ji, by decide +kernel, by decide, by decide +kernel⟩
set_option maxRecDepth 100000 in
theorem ms_Ji_bitCount : MS M_Ji_bitCount := G_at (i := 496) (by decide +kernel) rfl
set_option maxRecDepth 100000 in
theorem mf_Jm_floorMod : MF M_Jm_floorMod 2 := ⟨G_at (i := 443) (by decide +kernel) rfl, ii_Jm, by decide +kernel, by decide, by decide +kernel⟩
set_option maxRecDepth 100000 in
theorem ms_Jm_floorMod : MS M_Jm_floorMod := G_at (i := 442) (by decide +kernel) rfl
set_option maxRecDepth 100000 in
theorem mf_Jm_min : MF M_Jm_min 2 := ⟨G_at (i := 783) (by decide +kernel) rfl, ii_Jm, by decide +kernel, by decide, by decide +kernel⟩
set_option maxRecDepth 100000 in
theorem ms_Jm_min : MS M_Jm_min := G_at (i := 782) (by decide +kernel) rfl
set_option maxRecDepth 100000 in
theorem mf_Js_length : MF M_Js_length 0 := ⟨G_at (i := 691) (by decide +kernel) rfl, ii_Js, by decide +kernel, by decide, by decide +kernel⟩
set_option maxRecDepth 100000 in
theorem mv_Js_length : MV M_Js_length := ⟨G_at (i := 689) (by decide +kernel) rfl, G_at (i := 690) (by decide +kernel) rfl⟩
set_option maxRecDepth 100000 in
theorem mf_Js_charAt : MF M_Js_charAt 1 := ⟨G_at (i := 701) (by decide +kernel) rfl, ii_Js, by decide +kernel, by decide, by decide +kernel⟩
set_option maxRecDepth 100000 in
theorem mv_Js_charAt : MV M_Js_charAt := ⟨G_at (i := 699) (by decide +kernel) rfl, G_at (i := 700) (by decide +kernel) rfl⟩
set_option maxRecDepth 100000 in
theorem mf_Js_coder : MF M_Js_coder 0 := ⟨G_at (i := 695) (by decide +kernel) rfl, ii_Js, by decide +kernel, by decide, by decide +kernel⟩
set_option maxRecDepth 100000 in
theorem mv_Js_coder : MV M_Js_coder := ⟨G_at (i := 693) (by decide +kernel) rfl, G_at (i := 694) (by decide +kernel) rfl⟩
set_option maxRecDepth 100000 in
theorem mf_Js_isLatin1 : MF M_Js_isLatin1 0 := ⟨G_at (i := 705) (by decide +kernel) rfl, ii_Js, by decide +kernel, by decide, by decide +kernel⟩
set_option maxRecDepth 100000 in
theorem mv_Js_isLatin1 : MV M_Js_isLatin1 := ⟨G_at (i := 703) (by decide +kernel) rfl, G_at (i := 704) (by decide +kernel) rfl⟩
set_option maxRecDepth 100000 in
theorem mf_Js_checkIndex : MF M_Js_checkIndex 2 := ⟨G_at (i := 711) (by decide +kernel) rfl, ii_Js, by decide +kernel, by decide, by decide +kernel⟩
set_option maxRecDepth 100000 in
theorem ms_Js_checkIndex : MS M_Js_checkIndex := G_at (i := 710) (by decide +kernel) rfl
set_option maxRecDepth 100000 in
theorem mf_Jl_charAt : MF M_Jl_charAt 2 := ⟨G_at (i := 708) (by decide +kernel) rfl, ii_Jl, by decide +kernel, by decide, by decide +kernel⟩
set_option maxRecDepth 100000 in
theorem ms_Jl_charAt : MS M_Jl_charAt := G_at (i := 707) (by decide +kernel) rfl
set_option maxRecDepth 100000 in
theorem mf_Ju_getChar : MF M_Ju_getChar 2 := ⟨G_at (i := 729) (by decide +kernel) rfl, ii_Ju, by decide +kernel, by decide, by decide +kernel⟩
set_option maxRecDepth 100000 in
theorem ms_Ju_getChar : MS M_Ju_getChar := G_at (i := 728) (by decide +kernel) rfl
set_option maxRecDepth 100000 in
theorem mf_Ju_length : MF M_Ju_length 1 := ⟨G_at (i := 725) (by decide +kernel) rfl, ii_Ju, by decide +kernel, by decide, by decide +kernel⟩
set_option maxRecDepth 100000 in
theorem ms_Ju_length : MS M_Ju_length := G_at (i := 724) (by decide +kernel) rfl
set_option maxRecDepth 100000 in
theorem mf_Ju_charAt : MF M_Ju_charAt 2 := ⟨G_at (i := 719) (by decide +kernel) rfl, ii_Ju, by decide +kernel, by decide, by decide +kernel⟩
set_option maxRecDepth 100000 in
theorem ms_Ju_charAt : MS M_Ju_charAt := G_at (i := 718) (by decide +kernel) rfl
set_option maxRecDepth 100000 in
theorem mf_Ju_checkIndex : MF M_Ju_checkIndex 2 := ⟨G_at (i := 722) (by decide +kernel) rfl, ii_Ju, by decide +kernel, by decide, by decide +kernel⟩
set_option maxRecDepth 100000 in
theorem ms_Ju_checkIndex : MS M_Ju_checkIndex := G_at (i := 721) (by decide +kernel) rfl
set_option maxRecDepth 100000 in
theorem mf_Ja_fillJ : MF M_Ja_fillJ 2 := ⟨G_at (i := 550) (by decide +kernel) rfl, ii_Ja, by decide +kernel, by decide, by decide +kernel⟩
set_option maxRecDepth 100000 in
theorem ms_Ja_fillJ : MS M_Ja_fillJ := G_at (i := 549) (by decide +kernel) rfl
set_option maxRecDepth 100000 in
theorem mf_Ja_fill : MF M_Ja_fill 2 := ⟨G_at (i := 885) (by decide +kernel) rfl, ii_Ja, by decide +kernel, by decide, by decide +kernel⟩
set_option maxRecDepth 100000 in
theorem ms_Ja_fill : MS M_Ja_fill := G_at (i := 884) (by decide +kernel) rfl
set_option maxRecDepth 100000 in
theorem mf_Ja_copyOf : MF M_Ja_copyOf 2 := ⟨G_at (i := 773) (by decide +kernel) rfl, ii_Ja, by decide +kernel, by decide, by decide +kernel⟩
set_option maxRecDepth 100000 in
theorem ms_Ja_copyOf : MS M_Ja_copyOf := G_at (i := 772) (by decide +kernel) rfl
set_option maxRecDepth 100000 in
theorem mf_Jp_checkIndex : MF M_Jp_checkIndex 3 := ⟨G_at (i := 716) (by decide +kernel) rfl, ii_Jp, by decide +kernel, by decide, by decide +kernel⟩
set_option maxRecDepth 100000 in
theorem ms_Jp_checkIndex : MS M_Jp_checkIndex := G_at (i := 715) (by decide +kernel) rfl
end
