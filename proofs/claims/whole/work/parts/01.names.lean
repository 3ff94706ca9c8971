-- what began as the skeleton's PART A; behind it, by wip/gen/gen1.py, the names and the words
/-- a private method of a class that the tables say can be made, by its rows of tables_1 -/
def lw_okq (q : MethodName × Nat) : Prop := (q.1.cls ≠ "java/lang/invoke/MethodHandle" ∧ q.1.cls ≠ "java/lang/invoke/VarHandle") ∧ Cond.instantiable q.1.cls q.2 ∈ tables_1 ∧ Cond.privateMethod q.1 ∈ tables_1 ∧ Cond.instanceMethod q.1 ∈ tables_1
theorem lw_p0 : lw_okq (⟨"PraiseDuels$Reader", "skipBlanks", "()V"⟩, 7) := ⟨⟨by decide +kernel, by decide +kernel⟩, List.mem_of_getElem? (i := 64) (by decide +kernel), List.mem_of_getElem? (i := 336) (by decide +kernel), List.mem_of_getElem? (i := 337) (by decide +kernel)⟩
theorem lw_p1 : lw_okq (⟨"PraiseDuels$Reader", "letter", "()I"⟩, 7) := ⟨⟨by decide +kernel, by decide +kernel⟩, List.mem_of_getElem? (i := 64) (by decide +kernel), List.mem_of_getElem? (i := 340) (by decide +kernel), List.mem_of_getElem? (i := 341) (by decide +kernel)⟩
theorem lw_p2 : lw_okq (⟨"PraiseDuels$Reader", "readPerson", "()V"⟩, 7) := ⟨⟨by decide +kernel, by decide +kernel⟩, List.mem_of_getElem? (i := 64) (by decide +kernel), List.mem_of_getElem? (i := 347) (by decide +kernel), List.mem_of_getElem? (i := 348) (by decide +kernel)⟩
theorem lw_p3 : lw_okq (⟨"PraiseDuels$Reader", "mark", "(II)V"⟩, 7) := ⟨⟨by decide +kernel, by decide +kernel⟩, List.mem_of_getElem? (i := 64) (by decide +kernel), List.mem_of_getElem? (i := 351) (by decide +kernel), List.mem_of_getElem? (i := 352) (by decide +kernel)⟩
theorem lw_p4 : lw_okq (⟨"PraiseDuels$Reader", "readNumber", "(II)I"⟩, 7) := ⟨⟨by decide +kernel, by decide +kernel⟩, List.mem_of_getElem? (i := 64) (by decide +kernel), List.mem_of_getElem? (i := 359) (by decide +kernel), List.mem_of_getElem? (i := 360) (by decide +kernel)⟩
theorem lw_p5 : lw_okq (⟨"PraiseDuels$Reader", "readEnd", "()V"⟩, 7) := ⟨⟨by decide +kernel, by decide +kernel⟩, List.mem_of_getElem? (i := 64) (by decide +kernel), List.mem_of_getElem? (i := 363) (by decide +kernel), List.mem_of_getElem? (i := 364) (by decide +kernel)⟩
theorem lw_p6 : lw_okq (⟨"PraiseDuels$Reader", "readPhrase", "()V"⟩, 7) := ⟨⟨by decide +kernel, by decide +kernel⟩, List.mem_of_getElem? (i := 64) (by decide +kernel), List.mem_of_getElem? (i := 367) (by decide +kernel), List.mem_of_getElem? (i := 368) (by decide +kernel)⟩
theorem lw_p7 : lw_okq (⟨"PraiseDuels$Reader", "readDeed", "()V"⟩, 7) := ⟨⟨by decide +kernel, by decide +kernel⟩, List.mem_of_getElem? (i := 64) (by decide +kernel), List.mem_of_getElem? (i := 388) (by decide +kernel), List.mem_of_getElem? (i := 389) (by decide +kernel)⟩
theorem lw_p8 : lw_okq (⟨"PraiseDuels", "inDuel", "(II)I"⟩, 10) := ⟨⟨by decide +kernel, by decide +kernel⟩, List.mem_of_getElem? (i := 17) (by decide +kernel), List.mem_of_getElem? (i := 482) (by decide +kernel), List.mem_of_getElem? (i := 483) (by decide +kernel)⟩
theorem lw_p9 : lw_okq (⟨"PraiseDuels", "areTwo", "(II)Z"⟩, 10) := ⟨⟨by decide +kernel, by decide +kernel⟩, List.mem_of_getElem? (i := 17) (by decide +kernel), List.mem_of_getElem? (i := 541) (by decide +kernel), List.mem_of_getElem? (i := 542) (by decide +kernel)⟩
theorem lw_p10 : lw_okq (⟨"PraiseDuels$Duel", "remember", "()V"⟩, 2) := ⟨⟨by decide +kernel, by decide +kernel⟩, List.mem_of_getElem? (i := 125) (by decide +kernel), List.mem_of_getElem? (i := 569) (by decide +kernel), List.mem_of_getElem? (i := 570) (by decide +kernel)⟩
theorem lw_p11 : lw_okq (⟨"PraiseDuels$Duel", "passOnce", "()V"⟩, 2) := ⟨⟨by decide +kernel, by decide +kernel⟩, List.mem_of_getElem? (i := 125) (by decide +kernel), List.mem_of_getElem? (i := 578) (by decide +kernel), List.mem_of_getElem? (i := 579) (by decide +kernel)⟩
theorem lw_p12 : lw_okq (⟨"PraiseDuels$Duel", "speak", "(IILPraiseDuels$Folk;)V"⟩, 2) := ⟨⟨by decide +kernel, by decide +kernel⟩, List.mem_of_getElem? (i := 125) (by decide +kernel), List.mem_of_getElem? (i := 585) (by decide +kernel), List.mem_of_getElem? (i := 586) (by decide +kernel)⟩
theorem lw_p13 : lw_okq (⟨"PraiseDuels$Scene", "draw", "(I)I"⟩, 4) := ⟨⟨by decide +kernel, by decide +kernel⟩, List.mem_of_getElem? (i := 97) (by decide +kernel), List.mem_of_getElem? (i := 663) (by decide +kernel), List.mem_of_getElem? (i := 664) (by decide +kernel)⟩
theorem lw_p14 : lw_okq (⟨"PraiseDuels$Folk", "howManyTrue", "(I)I"⟩, 3) := ⟨⟨by decide +kernel, by decide +kernel⟩, List.mem_of_getElem? (i := 152) (by decide +kernel), List.mem_of_getElem? (i := 731) (by decide +kernel), List.mem_of_getElem? (i := 732) (by decide +kernel)⟩
theorem lw_p15 : lw_okq (⟨"PraiseDuels$League", "sumCounted", "(I)V"⟩, 5) := ⟨⟨by decide +kernel, by decide +kernel⟩, List.mem_of_getElem? (i := 103) (by decide +kernel), List.mem_of_getElem? (i := 744) (by decide +kernel), List.mem_of_getElem? (i := 745) (by decide +kernel)⟩
def lw_privs_1 : List (MethodName × Nat) := [(⟨"PraiseDuels$Reader", "skipBlanks", "()V"⟩, 7), (⟨"PraiseDuels$Reader", "letter", "()I"⟩, 7), (⟨"PraiseDuels$Reader", "readPerson", "()V"⟩, 7), (⟨"PraiseDuels$Reader", "mark", "(II)V"⟩, 7), (⟨"PraiseDuels$Reader", "readNumber", "(II)I"⟩, 7), (⟨"PraiseDuels$Reader", "readEnd", "()V"⟩, 7), (⟨"PraiseDuels$Reader", "readPhrase", "()V"⟩, 7), (⟨"PraiseDuels$Reader", "readDeed", "()V"⟩, 7), (⟨"PraiseDuels", "inDuel", "(II)I"⟩, 10), (⟨"PraiseDuels", "areTwo", "(II)Z"⟩, 10), (⟨"PraiseDuels$Duel", "remember", "()V"⟩, 2), (⟨"PraiseDuels$Duel", "passOnce", "()V"⟩, 2), (⟨"PraiseDuels$Duel", "speak", "(IILPraiseDuels$Folk;)V"⟩, 2), (⟨"PraiseDuels$Scene", "draw", "(I)I"⟩, 4), (⟨"PraiseDuels$Folk", "howManyTrue", "(I)I"⟩, 3), (⟨"PraiseDuels$League", "sumCounted", "(I)V"⟩, 5)]
theorem lw_r1 : ∀ q ∈ lw_privs_1, lw_okq q := List.forall_mem_cons.mpr ⟨lw_p0, List.forall_mem_cons.mpr ⟨lw_p1, List.forall_mem_cons.mpr ⟨lw_p2, List.forall_mem_cons.mpr ⟨lw_p3, List.forall_mem_cons.mpr ⟨lw_p4, List.forall_mem_cons.mpr ⟨lw_p5, List.forall_mem_cons.mpr ⟨lw_p6, List.forall_mem_cons.mpr ⟨lw_p7, List.forall_mem_cons.mpr ⟨lw_p8, List.forall_mem_cons.mpr ⟨lw_p9, List.forall_mem_cons.mpr ⟨lw_p10, List.forall_mem_cons.mpr ⟨lw_p11, List.forall_mem_cons.mpr ⟨lw_p12, List.forall_mem_cons.mpr ⟨lw_p13, List.forall_mem_cons.mpr ⟨lw_p14, List.forall_mem_cons.mpr ⟨lw_p15, fun _ h => absurd h List.not_mem_nil⟩⟩⟩⟩⟩⟩⟩⟩⟩⟩⟩⟩⟩⟩⟩⟩
theorem lw_p16 : lw_okq (⟨"PraiseDuels$Notes", "fitsAll", "(LPraiseDuels$Folk;III)Z"⟩, 7) := ⟨⟨by decide +kernel, by decide +kernel⟩, List.mem_of_getElem? (i := 193) (by decide +kernel), List.mem_of_getElem? (i := 788) (by decide +kernel), List.mem_of_getElem? (i := 789) (by decide +kernel)⟩
theorem lw_p17 : lw_okq (⟨"PraiseDuels$Notes", "mark", "(II)I"⟩, 7) := ⟨⟨by decide +kernel, by decide +kernel⟩, List.mem_of_getElem? (i := 193) (by decide +kernel), List.mem_of_getElem? (i := 792) (by decide +kernel), List.mem_of_getElem? (i := 793) (by decide +kernel)⟩
theorem lw_p18 : lw_okq (⟨"PraiseDuels$Notes", "greatestPart", "(LPraiseDuels$Folk;III)I"⟩, 7) := ⟨⟨by decide +kernel, by decide +kernel⟩, List.mem_of_getElem? (i := 193) (by decide +kernel), List.mem_of_getElem? (i := 809) (by decide +kernel), List.mem_of_getElem? (i := 810) (by decide +kernel)⟩
theorem lw_p19 : lw_okq (⟨"PraiseDuels$RowSearch", "addRow", "(I)V"⟩, 8) := ⟨⟨by decide +kernel, by decide +kernel⟩, List.mem_of_getElem? (i := 248) (by decide +kernel), List.mem_of_getElem? (i := 841) (by decide +kernel), List.mem_of_getElem? (i := 842) (by decide +kernel)⟩
theorem lw_p20 : lw_okq (⟨"PraiseDuels", "isImage", "(I)Z"⟩, 10) := ⟨⟨by decide +kernel, by decide +kernel⟩, List.mem_of_getElem? (i := 17) (by decide +kernel), List.mem_of_getElem? (i := 895) (by decide +kernel), List.mem_of_getElem? (i := 896) (by decide +kernel)⟩
theorem lw_p21 : lw_okq (⟨"PraiseDuelsModel", "advances", "()V"⟩, 35) := ⟨⟨by decide +kernel, by decide +kernel⟩, List.mem_of_getElem? (i := 917) (by decide +kernel), List.mem_of_getElem? (i := 1042) (by decide +kernel), List.mem_of_getElem? (i := 1043) (by decide +kernel)⟩
theorem lw_p22 : lw_okq (⟨"PraiseDuelsModel", "letterAt", "(I)I"⟩, 35) := ⟨⟨by decide +kernel, by decide +kernel⟩, List.mem_of_getElem? (i := 917) (by decide +kernel), List.mem_of_getElem? (i := 1046) (by decide +kernel), List.mem_of_getElem? (i := 1047) (by decide +kernel)⟩
theorem lw_p23 : lw_okq (⟨"PraiseDuelsModel", "isWell", "()Z"⟩, 35) := ⟨⟨by decide +kernel, by decide +kernel⟩, List.mem_of_getElem? (i := 917) (by decide +kernel), List.mem_of_getElem? (i := 1050) (by decide +kernel), List.mem_of_getElem? (i := 1051) (by decide +kernel)⟩
theorem lw_p24 : lw_okq (⟨"PraiseDuelsModel", "faultOf", "()I"⟩, 35) := ⟨⟨by decide +kernel, by decide +kernel⟩, List.mem_of_getElem? (i := 917) (by decide +kernel), List.mem_of_getElem? (i := 1054) (by decide +kernel), List.mem_of_getElem? (i := 1055) (by decide +kernel)⟩
theorem lw_p25 : lw_okq (⟨"PraiseDuelsModel", "fails", "(I)V"⟩, 35) := ⟨⟨by decide +kernel, by decide +kernel⟩, List.mem_of_getElem? (i := 917) (by decide +kernel), List.mem_of_getElem? (i := 1058) (by decide +kernel), List.mem_of_getElem? (i := 1059) (by decide +kernel)⟩
theorem lw_p26 : lw_okq (⟨"PraiseDuelsModel", "clause", "(I)V"⟩, 35) := ⟨⟨by decide +kernel, by decide +kernel⟩, List.mem_of_getElem? (i := 917) (by decide +kernel), List.mem_of_getElem? (i := 1062) (by decide +kernel), List.mem_of_getElem? (i := 1063) (by decide +kernel)⟩
theorem lw_p27 : lw_okq (⟨"PraiseDuelsModel", "number", "(IIZ)I"⟩, 35) := ⟨⟨by decide +kernel, by decide +kernel⟩, List.mem_of_getElem? (i := 917) (by decide +kernel), List.mem_of_getElem? (i := 1066) (by decide +kernel), List.mem_of_getElem? (i := 1067) (by decide +kernel)⟩
theorem lw_p28 : lw_okq (⟨"PraiseDuelsModel", "ends", "()V"⟩, 35) := ⟨⟨by decide +kernel, by decide +kernel⟩, List.mem_of_getElem? (i := 917) (by decide +kernel), List.mem_of_getElem? (i := 1070) (by decide +kernel), List.mem_of_getElem? (i := 1071) (by decide +kernel)⟩
theorem lw_p29 : lw_okq (⟨"PraiseDuelsModel", "settles", "()V"⟩, 35) := ⟨⟨by decide +kernel, by decide +kernel⟩, List.mem_of_getElem? (i := 917) (by decide +kernel), List.mem_of_getElem? (i := 1074) (by decide +kernel), List.mem_of_getElem? (i := 1075) (by decide +kernel)⟩
theorem lw_p30 : lw_okq (⟨"PraiseDuelsModel", "goesOn", "()Z"⟩, 35) := ⟨⟨by decide +kernel, by decide +kernel⟩, List.mem_of_getElem? (i := 917) (by decide +kernel), List.mem_of_getElem? (i := 1086) (by decide +kernel), List.mem_of_getElem? (i := 1087) (by decide +kernel)⟩
theorem lw_p31 : lw_okq (⟨"PraiseDuelsModel", "isDuel", "()Z"⟩, 35) := ⟨⟨by decide +kernel, by decide +kernel⟩, List.mem_of_getElem? (i := 917) (by decide +kernel), List.mem_of_getElem? (i := 1090) (by decide +kernel), List.mem_of_getElem? (i := 1091) (by decide +kernel)⟩
def lw_privs_2 : List (MethodName × Nat) := [(⟨"PraiseDuels$Notes", "fitsAll", "(LPraiseDuels$Folk;III)Z"⟩, 7), (⟨"PraiseDuels$Notes", "mark", "(II)I"⟩, 7), (⟨"PraiseDuels$Notes", "greatestPart", "(LPraiseDuels$Folk;III)I"⟩, 7), (⟨"PraiseDuels$RowSearch", "addRow", "(I)V"⟩, 8), (⟨"PraiseDuels", "isImage", "(I)Z"⟩, 10), (⟨"PraiseDuelsModel", "advances", "()V"⟩, 35), (⟨"PraiseDuelsModel", "letterAt", "(I)I"⟩, 35), (⟨"PraiseDuelsModel", "isWell", "()Z"⟩, 35), (⟨"PraiseDuelsModel", "faultOf", "()I"⟩, 35), (⟨"PraiseDuelsModel", "fails", "(I)V"⟩, 35), (⟨"PraiseDuelsModel", "clause", "(I)V"⟩, 35), (⟨"PraiseDuelsModel", "number", "(IIZ)I"⟩, 35), (⟨"PraiseDuelsModel", "ends", "()V"⟩, 35), (⟨"PraiseDuelsModel", "settles", "()V"⟩, 35), (⟨"PraiseDuelsModel", "goesOn", "()Z"⟩, 35), (⟨"PraiseDuelsModel", "isDuel", "()Z"⟩, 35)]
theorem lw_r2 : ∀ q ∈ lw_privs_2, lw_okq q := List.forall_mem_cons.mpr ⟨lw_p16, List.forall_mem_cons.mpr ⟨lw_p17, List.forall_mem_cons.mpr ⟨lw_p18, List.forall_mem_cons.mpr ⟨lw_p19, List.forall_mem_cons.mpr ⟨lw_p20, List.forall_mem_cons.mpr ⟨lw_p21, List.forall_mem_cons.mpr ⟨lw_p22, List.forall_mem_cons.mpr ⟨lw_p23, List.forall_mem_cons.mpr ⟨lw_p24, List.forall_mem_cons.mpr ⟨lw_p25, List.forall_mem_cons.mpr ⟨lw_p26, List.forall_mem_cons.mpr ⟨lw_p27, List.forall_mem_cons.mpr ⟨lw_p28, List.forall_mem_cons.mpr ⟨lw_p29, List.forall_mem_cons.mpr ⟨lw_p30, List.forall_mem_cons.mpr ⟨lw_p31, fun _ h => absurd h List.not_mem_nil⟩⟩⟩⟩⟩⟩⟩⟩⟩⟩⟩⟩⟩⟩⟩⟩
theorem lw_p32 : lw_okq (⟨"PraiseDuelsModel", "whose", "()I"⟩, 35) := ⟨⟨by decide +kernel, by decide +kernel⟩, List.mem_of_getElem? (i := 917) (by decide +kernel), List.mem_of_getElem? (i := 1094) (by decide +kernel), List.mem_of_getElem? (i := 1095) (by decide +kernel)⟩
theorem lw_p33 : lw_okq (⟨"PraiseDuelsModel", "isDuellist", "(I)Z"⟩, 35) := ⟨⟨by decide +kernel, by decide +kernel⟩, List.mem_of_getElem? (i := 917) (by decide +kernel), List.mem_of_getElem? (i := 1102) (by decide +kernel), List.mem_of_getElem? (i := 1103) (by decide +kernel)⟩
theorem lw_p34 : lw_okq (⟨"PraiseDuelsModel", "sideOf", "(I)I"⟩, 35) := ⟨⟨by decide +kernel, by decide +kernel⟩, List.mem_of_getElem? (i := 917) (by decide +kernel), List.mem_of_getElem? (i := 1107) (by decide +kernel), List.mem_of_getElem? (i := 1108) (by decide +kernel)⟩
theorem lw_p35 : lw_okq (⟨"PraiseDuelsModel", "isCompliment", "(I)Z"⟩, 35) := ⟨⟨by decide +kernel, by decide +kernel⟩, List.mem_of_getElem? (i := 917) (by decide +kernel), List.mem_of_getElem? (i := 1115) (by decide +kernel), List.mem_of_getElem? (i := 1116) (by decide +kernel)⟩
theorem lw_p36 : lw_okq (⟨"PraiseDuelsModel", "truthBy", "(II)I"⟩, 35) := ⟨⟨by decide +kernel, by decide +kernel⟩, List.mem_of_getElem? (i := 917) (by decide +kernel), List.mem_of_getElem? (i := 1123) (by decide +kernel), List.mem_of_getElem? (i := 1124) (by decide +kernel)⟩
theorem lw_p37 : lw_okq (⟨"PraiseDuelsModel", "firstTold", "(II)I"⟩, 35) := ⟨⟨by decide +kernel, by decide +kernel⟩, List.mem_of_getElem? (i := 917) (by decide +kernel), List.mem_of_getElem? (i := 1134) (by decide +kernel), List.mem_of_getElem? (i := 1135) (by decide +kernel)⟩
theorem lw_p38 : lw_okq (⟨"PraiseDuelsModel", "vanityOf", "(II)I"⟩, 35) := ⟨⟨by decide +kernel, by decide +kernel⟩, List.mem_of_getElem? (i := 917) (by decide +kernel), List.mem_of_getElem? (i := 1138) (by decide +kernel), List.mem_of_getElem? (i := 1139) (by decide +kernel)⟩
theorem lw_p39 : lw_okq (⟨"PraiseDuelsModel", "effectBy", "(IIII)I"⟩, 35) := ⟨⟨by decide +kernel, by decide +kernel⟩, List.mem_of_getElem? (i := 917) (by decide +kernel), List.mem_of_getElem? (i := 1142) (by decide +kernel), List.mem_of_getElem? (i := 1143) (by decide +kernel)⟩
theorem lw_p40 : lw_okq (⟨"PraiseDuelsModel", "canTurn", "([II)Z"⟩, 35) := ⟨⟨by decide +kernel, by decide +kernel⟩, List.mem_of_getElem? (i := 917) (by decide +kernel), List.mem_of_getElem? (i := 1154) (by decide +kernel), List.mem_of_getElem? (i := 1155) (by decide +kernel)⟩
theorem lw_p41 : lw_okq (⟨"PraiseDuelsModel", "does", "(I)V"⟩, 35) := ⟨⟨by decide +kernel, by decide +kernel⟩, List.mem_of_getElem? (i := 917) (by decide +kernel), List.mem_of_getElem? (i := 1159) (by decide +kernel), List.mem_of_getElem? (i := 1160) (by decide +kernel)⟩
theorem lw_p42 : lw_okq (⟨"PraiseDuelsModel", "turns", "([II)V"⟩, 35) := ⟨⟨by decide +kernel, by decide +kernel⟩, List.mem_of_getElem? (i := 917) (by decide +kernel), List.mem_of_getElem? (i := 1163) (by decide +kernel), List.mem_of_getElem? (i := 1164) (by decide +kernel)⟩
theorem lw_p43 : lw_okq (⟨"PraiseDuelsModel", "says", "([II)V"⟩, 35) := ⟨⟨by decide +kernel, by decide +kernel⟩, List.mem_of_getElem? (i := 917) (by decide +kernel), List.mem_of_getElem? (i := 1173) (by decide +kernel), List.mem_of_getElem? (i := 1174) (by decide +kernel)⟩
theorem lw_p44 : lw_okq (⟨"PraiseDuelsModel", "draw", "(I)I"⟩, 35) := ⟨⟨by decide +kernel, by decide +kernel⟩, List.mem_of_getElem? (i := 917) (by decide +kernel), List.mem_of_getElem? (i := 1201) (by decide +kernel), List.mem_of_getElem? (i := 1202) (by decide +kernel)⟩
theorem lw_p45 : lw_okq (⟨"PraiseDuelsModel", "unsaid", "(I)I"⟩, 35) := ⟨⟨by decide +kernel, by decide +kernel⟩, List.mem_of_getElem? (i := 917) (by decide +kernel), List.mem_of_getElem? (i := 1208) (by decide +kernel), List.mem_of_getElem? (i := 1209) (by decide +kernel)⟩
theorem lw_p46 : lw_okq (⟨"PraiseDuelsModel", "plays", "()I"⟩, 35) := ⟨⟨by decide +kernel, by decide +kernel⟩, List.mem_of_getElem? (i := 917) (by decide +kernel), List.mem_of_getElem? (i := 1216) (by decide +kernel), List.mem_of_getElem? (i := 1217) (by decide +kernel)⟩
theorem lw_p47 : lw_okq (⟨"PraiseDuelsModel", "asNow", "()V"⟩, 35) := ⟨⟨by decide +kernel, by decide +kernel⟩, List.mem_of_getElem? (i := 917) (by decide +kernel), List.mem_of_getElem? (i := 1220) (by decide +kernel), List.mem_of_getElem? (i := 1221) (by decide +kernel)⟩
def lw_privs_3 : List (MethodName × Nat) := [(⟨"PraiseDuelsModel", "whose", "()I"⟩, 35), (⟨"PraiseDuelsModel", "isDuellist", "(I)Z"⟩, 35), (⟨"PraiseDuelsModel", "sideOf", "(I)I"⟩, 35), (⟨"PraiseDuelsModel", "isCompliment", "(I)Z"⟩, 35), (⟨"PraiseDuelsModel", "truthBy", "(II)I"⟩, 35), (⟨"PraiseDuelsModel", "firstTold", "(II)I"⟩, 35), (⟨"PraiseDuelsModel", "vanityOf", "(II)I"⟩, 35), (⟨"PraiseDuelsModel", "effectBy", "(IIII)I"⟩, 35), (⟨"PraiseDuelsModel", "canTurn", "([II)Z"⟩, 35), (⟨"PraiseDuelsModel", "does", "(I)V"⟩, 35), (⟨"PraiseDuelsModel", "turns", "([II)V"⟩, 35), (⟨"PraiseDuelsModel", "says", "([II)V"⟩, 35), (⟨"PraiseDuelsModel", "draw", "(I)I"⟩, 35), (⟨"PraiseDuelsModel", "unsaid", "(I)I"⟩, 35), (⟨"PraiseDuelsModel", "plays", "()I"⟩, 35), (⟨"PraiseDuelsModel", "asNow", "()V"⟩, 35)]
theorem lw_r3 : ∀ q ∈ lw_privs_3, lw_okq q := List.forall_mem_cons.mpr ⟨lw_p32, List.forall_mem_cons.mpr ⟨lw_p33, List.forall_mem_cons.mpr ⟨lw_p34, List.forall_mem_cons.mpr ⟨lw_p35, List.forall_mem_cons.mpr ⟨lw_p36, List.forall_mem_cons.mpr ⟨lw_p37, List.forall_mem_cons.mpr ⟨lw_p38, List.forall_mem_cons.mpr ⟨lw_p39, List.forall_mem_cons.mpr ⟨lw_p40, List.forall_mem_cons.mpr ⟨lw_p41, List.forall_mem_cons.mpr ⟨lw_p42, List.forall_mem_cons.mpr ⟨lw_p43, List.forall_mem_cons.mpr ⟨lw_p44, List.forall_mem_cons.mpr ⟨lw_p45, List.forall_mem_cons.mpr ⟨lw_p46, List.forall_mem_cons.mpr ⟨lw_p47, fun _ h => absurd h List.not_mem_nil⟩⟩⟩⟩⟩⟩⟩⟩⟩⟩⟩⟩⟩⟩⟩⟩
theorem lw_p48 : lw_okq (⟨"PraiseDuelsModel", "pushes", "(I)V"⟩, 35) := ⟨⟨by decide +kernel, by decide +kernel⟩, List.mem_of_getElem? (i := 917) (by decide +kernel), List.mem_of_getElem? (i := 1224) (by decide +kernel), List.mem_of_getElem? (i := 1225) (by decide +kernel)⟩
theorem lw_p49 : lw_okq (⟨"PraiseDuelsModel", "merges", "(II)V"⟩, 35) := ⟨⟨by decide +kernel, by decide +kernel⟩, List.mem_of_getElem? (i := 917) (by decide +kernel), List.mem_of_getElem? (i := 1228) (by decide +kernel), List.mem_of_getElem? (i := 1229) (by decide +kernel)⟩
theorem lw_p50 : lw_okq (⟨"PraiseDuelsModel", "loads", "(I)V"⟩, 35) := ⟨⟨by decide +kernel, by decide +kernel⟩, List.mem_of_getElem? (i := 917) (by decide +kernel), List.mem_of_getElem? (i := 1232) (by decide +kernel), List.mem_of_getElem? (i := 1233) (by decide +kernel)⟩
theorem lw_p51 : lw_okq (⟨"PraiseDuelsModel", "against", "()I"⟩, 35) := ⟨⟨by decide +kernel, by decide +kernel⟩, List.mem_of_getElem? (i := 917) (by decide +kernel), List.mem_of_getElem? (i := 1240) (by decide +kernel), List.mem_of_getElem? (i := 1241) (by decide +kernel)⟩
theorem lw_p52 : lw_okq (⟨"PraiseDuelsModel", "effectNow", "(I)I"⟩, 35) := ⟨⟨by decide +kernel, by decide +kernel⟩, List.mem_of_getElem? (i := 917) (by decide +kernel), List.mem_of_getElem? (i := 1244) (by decide +kernel), List.mem_of_getElem? (i := 1245) (by decide +kernel)⟩
theorem lw_p53 : lw_okq (⟨"PraiseDuelsModel", "less", "(III)I"⟩, 35) := ⟨⟨by decide +kernel, by decide +kernel⟩, List.mem_of_getElem? (i := 917) (by decide +kernel), List.mem_of_getElem? (i := 1252) (by decide +kernel), List.mem_of_getElem? (i := 1253) (by decide +kernel)⟩
theorem lw_p54 : lw_okq (⟨"PraiseDuelsModel", "isFirst", "(III)Z"⟩, 35) := ⟨⟨by decide +kernel, by decide +kernel⟩, List.mem_of_getElem? (i := 917) (by decide +kernel), List.mem_of_getElem? (i := 1264) (by decide +kernel), List.mem_of_getElem? (i := 1265) (by decide +kernel)⟩
theorem lw_p55 : lw_okq (⟨"PraiseDuelsModel", "counted", "(I)V"⟩, 35) := ⟨⟨by decide +kernel, by decide +kernel⟩, List.mem_of_getElem? (i := 917) (by decide +kernel), List.mem_of_getElem? (i := 1268) (by decide +kernel), List.mem_of_getElem? (i := 1269) (by decide +kernel)⟩
theorem lw_p56 : lw_okq (⟨"PraiseDuelsModel", "leftOf", "(III)I"⟩, 35) := ⟨⟨by decide +kernel, by decide +kernel⟩, List.mem_of_getElem? (i := 917) (by decide +kernel), List.mem_of_getElem? (i := 1272) (by decide +kernel), List.mem_of_getElem? (i := 1273) (by decide +kernel)⟩
theorem lw_p57 : lw_okq (⟨"PraiseDuelsModel", "vanities", "(II)I"⟩, 35) := ⟨⟨by decide +kernel, by decide +kernel⟩, List.mem_of_getElem? (i := 917) (by decide +kernel), List.mem_of_getElem? (i := 1296) (by decide +kernel), List.mem_of_getElem? (i := 1297) (by decide +kernel)⟩
theorem lw_p58 : lw_okq (⟨"PraiseDuelsModel", "greatestPart", "(III)I"⟩, 35) := ⟨⟨by decide +kernel, by decide +kernel⟩, List.mem_of_getElem? (i := 917) (by decide +kernel), List.mem_of_getElem? (i := 1304) (by decide +kernel), List.mem_of_getElem? (i := 1305) (by decide +kernel)⟩
theorem lw_p59 : lw_okq (⟨"PraiseDuelsModel", "isRow", "(I)Z"⟩, 35) := ⟨⟨by decide +kernel, by decide +kernel⟩, List.mem_of_getElem? (i := 917) (by decide +kernel), List.mem_of_getElem? (i := 1316) (by decide +kernel), List.mem_of_getElem? (i := 1317) (by decide +kernel)⟩
def lw_privs_4 : List (MethodName × Nat) := [(⟨"PraiseDuelsModel", "pushes", "(I)V"⟩, 35), (⟨"PraiseDuelsModel", "merges", "(II)V"⟩, 35), (⟨"PraiseDuelsModel", "loads", "(I)V"⟩, 35), (⟨"PraiseDuelsModel", "against", "()I"⟩, 35), (⟨"PraiseDuelsModel", "effectNow", "(I)I"⟩, 35), (⟨"PraiseDuelsModel", "less", "(III)I"⟩, 35), (⟨"PraiseDuelsModel", "isFirst", "(III)Z"⟩, 35), (⟨"PraiseDuelsModel", "counted", "(I)V"⟩, 35), (⟨"PraiseDuelsModel", "leftOf", "(III)I"⟩, 35), (⟨"PraiseDuelsModel", "vanities", "(II)I"⟩, 35), (⟨"PraiseDuelsModel", "greatestPart", "(III)I"⟩, 35), (⟨"PraiseDuelsModel", "isRow", "(I)Z"⟩, 35)]
theorem lw_r4 : ∀ q ∈ lw_privs_4, lw_okq q := List.forall_mem_cons.mpr ⟨lw_p48, List.forall_mem_cons.mpr ⟨lw_p49, List.forall_mem_cons.mpr ⟨lw_p50, List.forall_mem_cons.mpr ⟨lw_p51, List.forall_mem_cons.mpr ⟨lw_p52, List.forall_mem_cons.mpr ⟨lw_p53, List.forall_mem_cons.mpr ⟨lw_p54, List.forall_mem_cons.mpr ⟨lw_p55, List.forall_mem_cons.mpr ⟨lw_p56, List.forall_mem_cons.mpr ⟨lw_p57, List.forall_mem_cons.mpr ⟨lw_p58, List.forall_mem_cons.mpr ⟨lw_p59, fun _ h => absurd h List.not_mem_nil⟩⟩⟩⟩⟩⟩⟩⟩⟩⟩⟩⟩
def lw_privs : List (MethodName × Nat) := lw_privs_1 ++ (lw_privs_2 ++ (lw_privs_3 ++ (lw_privs_4)))
def lw_tbl : List Cond := k2_sels lw_privs ++ tables_1
theorem lw_privs_ok : ∀ q ∈ lw_privs, lw_okq q := by
  show ∀ q ∈ lw_privs_1 ++ (lw_privs_2 ++ (lw_privs_3 ++ (lw_privs_4))), lw_okq q
  exact List.forall_mem_append.mpr ⟨lw_r1, List.forall_mem_append.mpr ⟨lw_r2, List.forall_mem_append.mpr ⟨lw_r3, lw_r4⟩⟩⟩
def RX0 : String := "PraiseDuels$BestSearch"
def TX0 : u_T := fun k => match k with
  | 0 => ("PraiseDuels$BestSearch", "duel", "LPraiseDuels$Duel;", true)
  | 1 => ("PraiseDuels$BestSearch", "folk", "LPraiseDuels$Folk;", true)
  | 2 => ("PraiseDuels$BestSearch", "land", "LPraiseDuels$Meadow;", true)
  | _ => ("PraiseDuels$BestSearch", "firstTurn", "I", false)
def tyX0 : Nat → FieldType := fun k => match k with
  | 0 => .object "PraiseDuels$Duel"
  | 1 => .object "PraiseDuels$Folk"
  | 2 => .object "PraiseDuels$Meadow"
  | _ => .int
theorem nmX0 : ∀ a, a < 4 → ∀ b, b < 4 → a ≠ b → (TX0 a).2.1 ≠ (TX0 b).2.1 := by decide +kernel
theorem tyX0_ok : ∀ k, k < 4 → parseFieldDescriptor (TX0 k).2.2.1 = some (tyX0 k) := by decide +kernel
abbrev cX0_init : ByteArray := prog_2_method_1_code
def yX0_init : MethodName := ⟨RX0, "<init>", "(LPraiseDuels$Duel;LPraiseDuels$Folk;)V"⟩
abbrev cX0_find : ByteArray := prog_2_method_2_code
def yX0_find : MethodName := ⟨RX0, "find", "()I"⟩
abbrev cX0_valueOf : ByteArray := prog_2_method_3_code
def yX0_valueOf : MethodName := ⟨RX0, "valueOf", "(LPraiseDuels$BestSearch;II)I"⟩
abbrev cX0_valueOfEnd : ByteArray := prog_2_method_4_code
def yX0_valueOfEnd : MethodName := ⟨RX0, "valueOfEnd", "(LPraiseDuels$Duel;)I"⟩
def RX1 : String := "PraiseDuels$Duel"
def TX1 : u_T := fun k => match k with
  | 0 => ("PraiseDuels$Duel", "cells", "[I", true)
  | _ => ("PraiseDuels$Duel", "past", "[I", true)
def tyX1 : Nat → FieldType := fun k => match k with
  | 0 => .array .int
  | _ => .array .int
theorem nmX1 : ∀ a, a < 2 → ∀ b, b < 2 → a ≠ b → (TX1 a).2.1 ≠ (TX1 b).2.1 := by decide +kernel
theorem tyX1_ok : ∀ k, k < 2 → parseFieldDescriptor (TX1 k).2.2.1 = some (tyX1 k) := by decide +kernel
abbrev cX1_init : ByteArray := prog_3_method_1_code
def yX1_init : MethodName := ⟨RX1, "<init>", "()V"⟩
abbrev cX1_clear : ByteArray := prog_3_method_2_code
def yX1_clear : MethodName := ⟨RX1, "clear", "()V"⟩
abbrev cX1_begin : ByteArray := prog_3_method_3_code
def yX1_begin : MethodName := ⟨RX1, "begin", "(II)V"⟩
abbrev cX1_copyFrom : ByteArray := prog_3_method_4_code
def yX1_copyFrom : MethodName := ⟨RX1, "copyFrom", "(LPraiseDuels$Duel;)V"⟩
abbrev cX1_cell : ByteArray := prog_3_method_5_code
def yX1_cell : MethodName := ⟨RX1, "cell", "(I)I"⟩
abbrev cX1_person : ByteArray := prog_3_method_6_code
def yX1_person : MethodName := ⟨RX1, "person", "(I)I"⟩
abbrev cX1_toldTo : ByteArray := prog_3_method_7_code
def yX1_toldTo : MethodName := ⟨RX1, "toldTo", "(II)I"⟩
abbrev cX1_exists : ByteArray := prog_3_method_8_code
def yX1_exists : MethodName := ⟨RX1, "exists", "()Z"⟩
abbrev cX1_goesOn : ByteArray := prog_3_method_9_code
def yX1_goesOn : MethodName := ⟨RX1, "goesOn", "()Z"⟩
abbrev cX1_side : ByteArray := prog_3_method_10_code
def yX1_side : MethodName := ⟨RX1, "side", "()I"⟩
abbrev cX1_sideOf : ByteArray := prog_3_method_11_code
def yX1_sideOf : MethodName := ⟨RX1, "sideOf", "(I)I"⟩
abbrev cX1_isUnsaid : ByteArray := prog_3_method_12_code
def yX1_isUnsaid : MethodName := ⟨RX1, "isUnsaid", "(I)Z"⟩
abbrev cX1_unsaidCount : ByteArray := prog_3_method_13_code
def yX1_unsaidCount : MethodName := ⟨RX1, "unsaidCount", "(I)I"⟩
abbrev cX1_unsaidAt : ByteArray := prog_3_method_14_code
def yX1_unsaidAt : MethodName := ⟨RX1, "unsaidAt", "(II)I"⟩
abbrev cX1_allows : ByteArray := prog_3_method_15_code
def yX1_allows : MethodName := ⟨RX1, "allows", "(I)Z"⟩
abbrev cX1_play : ByteArray := prog_3_method_16_code
def yX1_play : MethodName := ⟨RX1, "play", "(ILPraiseDuels$Folk;)V"⟩
abbrev cX1_remember : ByteArray := prog_3_method_17_code
def yX1_remember : MethodName := ⟨RX1, "remember", "()V"⟩
abbrev cX1_takeBack : ByteArray := prog_3_method_18_code
def yX1_takeBack : MethodName := ⟨RX1, "takeBack", "(I)V"⟩
abbrev cX1_passOnce : ByteArray := prog_3_method_19_code
def yX1_passOnce : MethodName := ⟨RX1, "passOnce", "()V"⟩
abbrev cX1_speak : ByteArray := prog_3_method_20_code
def yX1_speak : MethodName := ⟨RX1, "speak", "(IILPraiseDuels$Folk;)V"⟩
def RX2 : String := "PraiseDuels$Folk"
def TX2 : u_T := fun k => match k with
  | 0 => ("PraiseDuels$Folk", "land", "LPraiseDuels$Meadow;", true)
  | 1 => ("PraiseDuels$Folk", "done", "[I", true)
  | _ => ("PraiseDuels$Folk", "vanities", "[I", true)
def tyX2 : Nat → FieldType := fun k => match k with
  | 0 => .object "PraiseDuels$Meadow"
  | 1 => .array .int
  | _ => .array .int
theorem nmX2 : ∀ a, a < 3 → ∀ b, b < 3 → a ≠ b → (TX2 a).2.1 ≠ (TX2 b).2.1 := by decide +kernel
theorem tyX2_ok : ∀ k, k < 3 → parseFieldDescriptor (TX2 k).2.2.1 = some (tyX2 k) := by decide +kernel
abbrev cX2_init : ByteArray := prog_4_method_1_code
def yX2_init : MethodName := ⟨RX2, "<init>", "(LPraiseDuels$Meadow;)V"⟩
abbrev cX2_begin : ByteArray := prog_4_method_2_code
def yX2_begin : MethodName := ⟨RX2, "begin", "()V"⟩
abbrev cX2_copyFrom : ByteArray := prog_4_method_3_code
def yX2_copyFrom : MethodName := ⟨RX2, "copyFrom", "(LPraiseDuels$Folk;)V"⟩
abbrev cX2_deedsOf : ByteArray := prog_4_method_4_code
def yX2_deedsOf : MethodName := ⟨RX2, "deedsOf", "(I)I"⟩
abbrev cX2_vanityOf : ByteArray := prog_4_method_5_code
def yX2_vanityOf : MethodName := ⟨RX2, "vanityOf", "(II)I"⟩
abbrev cX2_truthOf : ByteArray := prog_4_method_6_code
def yX2_truthOf : MethodName := ⟨RX2, "truthOf", "(II)I"⟩
abbrev cX2_effectOn : ByteArray := prog_4_method_7_code
def yX2_effectOn : MethodName := ⟨RX2, "effectOn", "(III)I"⟩
abbrev cX2_effectBy : ByteArray := prog_4_method_8_code
def yX2_effectBy : MethodName := ⟨RX2, "effectBy", "(IIII)I"⟩
abbrev cX2_effectOf : ByteArray := prog_4_method_9_code
def yX2_effectOf : MethodName := ⟨RX2, "effectOf", "(III)I"⟩
abbrev cX2_hardenedBy : ByteArray := prog_4_method_10_code
def yX2_hardenedBy : MethodName := ⟨RX2, "hardenedBy", "(III)I"⟩
abbrev cX2_fewestDeeds : ByteArray := prog_4_method_11_code
def yX2_fewestDeeds : MethodName := ⟨RX2, "fewestDeeds", "(II)I"⟩
abbrev cX2_howManyTrue : ByteArray := prog_4_method_12_code
def yX2_howManyTrue : MethodName := ⟨RX2, "howManyTrue", "(I)I"⟩
def RX3 : String := "PraiseDuels$League"
def TX3 : u_T := fun k => match k with
  | 0 => ("PraiseDuels$League", "points", "[I", true)
  | 1 => ("PraiseDuels$League", "meetings", "[I", true)
  | 2 => ("PraiseDuels$League", "lowScores", "[I", true)
  | 3 => ("PraiseDuels$League", "sums", "[I", true)
  | _ => ("PraiseDuels$League", "open", "[I", true)
def tyX3 : Nat → FieldType := fun k => match k with
  | 0 => .array .int
  | 1 => .array .int
  | 2 => .array .int
  | 3 => .array .int
  | _ => .array .int
theorem nmX3 : ∀ a, a < 5 → ∀ b, b < 5 → a ≠ b → (TX3 a).2.1 ≠ (TX3 b).2.1 := by decide +kernel
theorem tyX3_ok : ∀ k, k < 5 → parseFieldDescriptor (TX3 k).2.2.1 = some (tyX3 k) := by decide +kernel
abbrev cX3_init : ByteArray := prog_5_method_1_code
def yX3_init : MethodName := ⟨RX3, "<init>", "()V"⟩
abbrev cX3_clear : ByteArray := prog_5_method_2_code
def yX3_clear : MethodName := ⟨RX3, "clear", "()V"⟩
abbrev cX3_copyFrom : ByteArray := prog_5_method_3_code
def yX3_copyFrom : MethodName := ⟨RX3, "copyFrom", "(LPraiseDuels$League;)V"⟩
abbrev cX3_pointsOf : ByteArray := prog_5_method_4_code
def yX3_pointsOf : MethodName := ⟨RX3, "pointsOf", "(I)I"⟩
abbrev cX3_meetingsOf : ByteArray := prog_5_method_5_code
def yX3_meetingsOf : MethodName := ⟨RX3, "meetingsOf", "(II)I"⟩
abbrev cX3_pairOf : ByteArray := prog_5_method_6_code
def yX3_pairOf : MethodName := ⟨RX3, "pairOf", "(II)I"⟩
abbrev cX3_scoreOfFirst : ByteArray := prog_5_method_7_code
def yX3_scoreOfFirst : MethodName := ⟨RX3, "scoreOfFirst", "(I)I"⟩
abbrev cX3_count : ByteArray := prog_5_method_8_code
def yX3_count : MethodName := ⟨RX3, "count", "(III)V"⟩
abbrev cX3_uncount : ByteArray := prog_5_method_9_code
def yX3_uncount : MethodName := ⟨RX3, "uncount", "(III)V"⟩
abbrev cX3_possibleWinners : ByteArray := prog_5_method_10_code
def yX3_possibleWinners : MethodName := ⟨RX3, "possibleWinners", "(II)I"⟩
abbrev cX3_sumCounted : ByteArray := prog_5_method_11_code
def yX3_sumCounted : MethodName := ⟨RX3, "sumCounted", "(I)V"⟩
abbrev cX3_canSettle : ByteArray := prog_5_method_12_code
def yX3_canSettle : MethodName := ⟨RX3, "canSettle", "([I[III)Z"⟩
abbrev cX3_hasMost : ByteArray := prog_5_method_13_code
def yX3_hasMost : MethodName := ⟨RX3, "hasMost", "([II)Z"⟩
def RX4 : String := "PraiseDuels$Meadow"
def TX4 : u_T := fun k => match k with
  | 0 => ("PraiseDuels$Meadow", "people", "I", false)
  | 1 => ("PraiseDuels$Meadow", "phrases", "I", false)
  | 2 => ("PraiseDuels$Meadow", "traits", "[I", true)
  | 3 => ("PraiseDuels$Meadow", "parts", "[I", true)
  | 4 => ("PraiseDuels$Meadow", "needs", "[I", true)
  | _ => ("PraiseDuels$Meadow", "firstDone", "[I", true)
def tyX4 : Nat → FieldType := fun k => match k with
  | 0 => .int
  | 1 => .int
  | 2 => .array .int
  | 3 => .array .int
  | 4 => .array .int
  | _ => .array .int
theorem nmX4 : ∀ a, a < 6 → ∀ b, b < 6 → a ≠ b → (TX4 a).2.1 ≠ (TX4 b).2.1 := by decide +kernel
theorem tyX4_ok : ∀ k, k < 6 → parseFieldDescriptor (TX4 k).2.2.1 = some (tyX4 k) := by decide +kernel
abbrev cX4_init : ByteArray := prog_6_method_1_code
def yX4_init : MethodName := ⟨RX4, "<init>", "()V"⟩
abbrev cX4_hasPerson : ByteArray := prog_6_method_2_code
def yX4_hasPerson : MethodName := ⟨RX4, "hasPerson", "(I)Z"⟩
abbrev cX4_hasPhrase : ByteArray := prog_6_method_3_code
def yX4_hasPhrase : MethodName := ⟨RX4, "hasPhrase", "(I)Z"⟩
abbrev cX4_trait : ByteArray := prog_6_method_4_code
def yX4_trait : MethodName := ⟨RX4, "trait", "(II)I"⟩
abbrev cX4_part : ByteArray := prog_6_method_5_code
def yX4_part : MethodName := ⟨RX4, "part", "(II)I"⟩
abbrev cX4_addPhrase : ByteArray := prog_6_method_6_code
def yX4_addPhrase : MethodName := ⟨RX4, "addPhrase", "()V"⟩
abbrev cX4_deedBit : ByteArray := prog_6_method_7_code
def yX4_deedBit : MethodName := ⟨RX4, "deedBit", "(I)I"⟩
abbrev cX4_clear : ByteArray := prog_6_method_8_code
def yX4_clear : MethodName := ⟨RX4, "clear", "()V"⟩
abbrev cX4_copyFrom : ByteArray := prog_6_method_9_code
def yX4_copyFrom : MethodName := ⟨RX4, "copyFrom", "(LPraiseDuels$Meadow;)V"⟩
def RX5 : String := "PraiseDuels$Notes"
def TX5 : u_T := fun k => match k with
  | 0 => ("PraiseDuels$Notes", "warmed", "[I", true)
  | 1 => ("PraiseDuels$Notes", "cheeks", "[I", true)
  | 2 => ("PraiseDuels$Notes", "book", "[I", true)
  | 3 => ("PraiseDuels$Notes", "partSizes", "[I", true)
  | 4 => ("PraiseDuels$Notes", "warmedCount", "I", false)
  | 5 => ("PraiseDuels$Notes", "cheekCount", "I", false)
  | _ => ("PraiseDuels$Notes", "bookCount", "I", false)
def tyX5 : Nat → FieldType := fun k => match k with
  | 0 => .array .int
  | 1 => .array .int
  | 2 => .array .int
  | 3 => .array .int
  | 4 => .int
  | 5 => .int
  | _ => .int
theorem nmX5 : ∀ a, a < 7 → ∀ b, b < 7 → a ≠ b → (TX5 a).2.1 ≠ (TX5 b).2.1 := by decide +kernel
theorem tyX5_ok : ∀ k, k < 7 → parseFieldDescriptor (TX5 k).2.2.1 = some (tyX5 k) := by decide +kernel
abbrev cX5_init : ByteArray := prog_7_method_1_code
def yX5_init : MethodName := ⟨RX5, "<init>", "()V"⟩
abbrev cX5_clearAll : ByteArray := prog_7_method_2_code
def yX5_clearAll : MethodName := ⟨RX5, "clearAll", "()I"⟩
abbrev cX5_addWarmed : ByteArray := prog_7_method_3_code
def yX5_addWarmed : MethodName := ⟨RX5, "addWarmed", "(IIII)I"⟩
abbrev cX5_addCheek : ByteArray := prog_7_method_4_code
def yX5_addCheek : MethodName := ⟨RX5, "addCheek", "(I)I"⟩
abbrev cX5_cheekAt : ByteArray := prog_7_method_5_code
def yX5_cheekAt : MethodName := ⟨RX5, "cheekAt", "(I)I"⟩
abbrev cX5_addTurn : ByteArray := prog_7_method_6_code
def yX5_addTurn : MethodName := ⟨RX5, "addTurn", "(I)I"⟩
abbrev cX5_mark : ByteArray := prog_7_method_7_code
def yX5_mark : MethodName := ⟨RX5, "mark", "(II)I"⟩
abbrev cX5_fittingVanities : ByteArray := prog_7_method_8_code
def yX5_fittingVanities : MethodName := ⟨RX5, "fittingVanities", "(LPraiseDuels$Folk;II)I"⟩
abbrev cX5_fitsAll : ByteArray := prog_7_method_9_code
def yX5_fitsAll : MethodName := ⟨RX5, "fitsAll", "(LPraiseDuels$Folk;III)Z"⟩
abbrev cX5_partingPhrase : ByteArray := prog_7_method_10_code
def yX5_partingPhrase : MethodName := ⟨RX5, "partingPhrase", "(LPraiseDuels$Folk;II)I"⟩
abbrev cX5_greatestPart : ByteArray := prog_7_method_11_code
def yX5_greatestPart : MethodName := ⟨RX5, "greatestPart", "(LPraiseDuels$Folk;III)I"⟩
abbrev cX5_playBook : ByteArray := prog_7_method_12_code
def yX5_playBook : MethodName := ⟨RX5, "playBook", "(LPraiseDuels$Duel;LPraiseDuels$Folk;)I"⟩
def RX6 : String := "PraiseDuels$Reader"
def TX6 : u_T := fun k => match k with
  | 0 => ("PraiseDuels$Reader", "draft", "LPraiseDuels$Meadow;", true)
  | 1 => ("PraiseDuels$Reader", "letters", "[I", true)
  | 2 => ("PraiseDuels$Reader", "length", "I", false)
  | 3 => ("PraiseDuels$Reader", "faultPlace", "I", false)
  | 4 => ("PraiseDuels$Reader", "fault", "I", false)
  | 5 => ("PraiseDuels$Reader", "place", "I", false)
  | _ => ("PraiseDuels$Reader", "numberPlace", "I", false)
def tyX6 : Nat → FieldType := fun k => match k with
  | 0 => .object "PraiseDuels$Meadow"
  | 1 => .array .int
  | 2 => .int
  | 3 => .int
  | 4 => .int
  | 5 => .int
  | _ => .int
theorem nmX6 : ∀ a, a < 7 → ∀ b, b < 7 → a ≠ b → (TX6 a).2.1 ≠ (TX6 b).2.1 := by decide +kernel
theorem tyX6_ok : ∀ k, k < 7 → parseFieldDescriptor (TX6 k).2.2.1 = some (tyX6 k) := by decide +kernel
abbrev cX6_init : ByteArray := prog_8_method_1_code
def yX6_init : MethodName := ⟨RX6, "<init>", "()V"⟩
abbrev cX6_append : ByteArray := prog_8_method_2_code
def yX6_append : MethodName := ⟨RX6, "append", "(I)I"⟩
abbrev cX6_readAll : ByteArray := prog_8_method_3_code
def yX6_readAll : MethodName := ⟨RX6, "readAll", "()I"⟩
abbrev cX6_readPerson : ByteArray := prog_8_method_4_code
def yX6_readPerson : MethodName := ⟨RX6, "readPerson", "()V"⟩
abbrev cX6_readPhrase : ByteArray := prog_8_method_5_code
def yX6_readPhrase : MethodName := ⟨RX6, "readPhrase", "()V"⟩
abbrev cX6_readDeed : ByteArray := prog_8_method_6_code
def yX6_readDeed : MethodName := ⟨RX6, "readDeed", "()V"⟩
abbrev cX6_readNumber : ByteArray := prog_8_method_7_code
def yX6_readNumber : MethodName := ⟨RX6, "readNumber", "(II)I"⟩
abbrev cX6_readEnd : ByteArray := prog_8_method_8_code
def yX6_readEnd : MethodName := ⟨RX6, "readEnd", "()V"⟩
abbrev cX6_skipBlanks : ByteArray := prog_8_method_9_code
def yX6_skipBlanks : MethodName := ⟨RX6, "skipBlanks", "()V"⟩
abbrev cX6_letter : ByteArray := prog_8_method_10_code
def yX6_letter : MethodName := ⟨RX6, "letter", "()I"⟩
abbrev cX6_mark : ByteArray := prog_8_method_11_code
def yX6_mark : MethodName := ⟨RX6, "mark", "(II)V"⟩
def RX7 : String := "PraiseDuels$RowSearch"
def TX7 : u_T := fun k => match k with
  | 0 => ("PraiseDuels$RowSearch", "folk", "LPraiseDuels$Folk;", true)
  | 1 => ("PraiseDuels$RowSearch", "notes", "LPraiseDuels$Notes;", true)
  | 2 => ("PraiseDuels$RowSearch", "row", "[I", true)
  | 3 => ("PraiseDuels$RowSearch", "times", "[I", true)
  | 4 => ("PraiseDuels$RowSearch", "firstRow", "[I", true)
  | 5 => ("PraiseDuels$RowSearch", "person", "I", false)
  | 6 => ("PraiseDuels$RowSearch", "count", "I", false)
  | _ => ("PraiseDuels$RowSearch", "inAll", "I", false)
def tyX7 : Nat → FieldType := fun k => match k with
  | 0 => .object "PraiseDuels$Folk"
  | 1 => .object "PraiseDuels$Notes"
  | 2 => .array .int
  | 3 => .array .int
  | 4 => .array .int
  | 5 => .int
  | 6 => .int
  | _ => .int
theorem nmX7 : ∀ a, a < 8 → ∀ b, b < 8 → a ≠ b → (TX7 a).2.1 ≠ (TX7 b).2.1 := by decide +kernel
theorem tyX7_ok : ∀ k, k < 8 → parseFieldDescriptor (TX7 k).2.2.1 = some (tyX7 k) := by decide +kernel
abbrev cX7_init : ByteArray := prog_9_method_1_code
def yX7_init : MethodName := ⟨RX7, "<init>", "(LPraiseDuels$Folk;LPraiseDuels$Notes;)V"⟩
abbrev cX7_findAll : ByteArray := prog_9_method_2_code
def yX7_findAll : MethodName := ⟨RX7, "findAll", "(LPraiseDuels$Duel;)V"⟩
abbrev cX7_first : ByteArray := prog_9_method_3_code
def yX7_first : MethodName := ⟨RX7, "first", "(I)I"⟩
abbrev cX7_extend : ByteArray := prog_9_method_4_code
def yX7_extend : MethodName := ⟨RX7, "extend", "(LPraiseDuels$RowSearch;III)V"⟩
abbrev cX7_addRow : ByteArray := prog_9_method_5_code
def yX7_addRow : MethodName := ⟨RX7, "addRow", "(I)V"⟩
def RX8 : String := "PraiseDuels$Rows"
def TX8 : u_T := fun k => match k with
  | _ => ("", "", "", false)
def tyX8 : Nat → FieldType := fun k => match k with
  | _ => .int
theorem nmX8 : ∀ a, a < 0 → ∀ b, b < 0 → a ≠ b → (TX8 a).2.1 ≠ (TX8 b).2.1 := by decide +kernel
theorem tyX8_ok : ∀ k, k < 0 → parseFieldDescriptor (TX8 k).2.2.1 = some (tyX8 k) := by decide +kernel
abbrev cX8_at : ByteArray := prog_10_method_2_code
def yX8_at : MethodName := ⟨RX8, "at", "([II)I"⟩
abbrev cX8_put : ByteArray := prog_10_method_3_code
def yX8_put : MethodName := ⟨RX8, "put", "([III)V"⟩
abbrev cX8_add : ByteArray := prog_10_method_4_code
def yX8_add : MethodName := ⟨RX8, "add", "([III)V"⟩
abbrev cX8_copy : ByteArray := prog_10_method_5_code
def yX8_copy : MethodName := ⟨RX8, "copy", "([I[I)V"⟩
abbrev cX8_clear : ByteArray := prog_10_method_6_code
def yX8_clear : MethodName := ⟨RX8, "clear", "([I)V"⟩
def RX9 : String := "PraiseDuels$Scene"
def TX9 : u_T := fun k => match k with
  | 0 => ("PraiseDuels$Scene", "folk", "LPraiseDuels$Folk;", true)
  | 1 => ("PraiseDuels$Scene", "league", "LPraiseDuels$League;", true)
  | 2 => ("PraiseDuels$Scene", "duel", "LPraiseDuels$Duel;", true)
  | _ => ("PraiseDuels$Scene", "seedNumber", "I", false)
def tyX9 : Nat → FieldType := fun k => match k with
  | 0 => .object "PraiseDuels$Folk"
  | 1 => .object "PraiseDuels$League"
  | 2 => .object "PraiseDuels$Duel"
  | _ => .int
theorem nmX9 : ∀ a, a < 4 → ∀ b, b < 4 → a ≠ b → (TX9 a).2.1 ≠ (TX9 b).2.1 := by decide +kernel
theorem tyX9_ok : ∀ k, k < 4 → parseFieldDescriptor (TX9 k).2.2.1 = some (tyX9 k) := by decide +kernel
abbrev cX9_init : ByteArray := prog_11_method_1_code
def yX9_init : MethodName := ⟨RX9, "<init>", "(LPraiseDuels$Meadow;)V"⟩
abbrev cX9_beginAnew : ByteArray := prog_11_method_2_code
def yX9_beginAnew : MethodName := ⟨RX9, "beginAnew", "()V"⟩
abbrev cX9_copyFrom : ByteArray := prog_11_method_3_code
def yX9_copyFrom : MethodName := ⟨RX9, "copyFrom", "(LPraiseDuels$Scene;)V"⟩
abbrev cX9_effectNow : ByteArray := prog_11_method_4_code
def yX9_effectNow : MethodName := ⟨RX9, "effectNow", "(II)I"⟩
abbrev cX9_playTurn : ByteArray := prog_11_method_5_code
def yX9_playTurn : MethodName := ⟨RX9, "playTurn", "(I)I"⟩
abbrev cX9_takeBack : ByteArray := prog_11_method_6_code
def yX9_takeBack : MethodName := ⟨RX9, "takeBack", "(I)V"⟩
abbrev cX9_drawTurn : ByteArray := prog_11_method_7_code
def yX9_drawTurn : MethodName := ⟨RX9, "drawTurn", "()I"⟩
abbrev cX9_draw : ByteArray := prog_11_method_8_code
def yX9_draw : MethodName := ⟨RX9, "draw", "(I)I"⟩
def RX10 : String := "PraiseDuels"
def TX10 : u_T := fun k => match k with
  | 0 => ("PraiseDuels", "land", "LPraiseDuels$Meadow;", true)
  | 1 => ("PraiseDuels", "reader", "LPraiseDuels$Reader;", true)
  | 2 => ("PraiseDuels", "now", "LPraiseDuels$Scene;", true)
  | 3 => ("PraiseDuels", "images", "[LPraiseDuels$Scene;", true)
  | 4 => ("PraiseDuels", "kept", "[Z", true)
  | 5 => ("PraiseDuels", "notes", "LPraiseDuels$Notes;", true)
  | 6 => ("PraiseDuels", "trial", "LPraiseDuels$Duel;", true)
  | 7 => ("PraiseDuels", "bestSearch", "LPraiseDuels$BestSearch;", true)
  | 8 => ("PraiseDuels", "rowSearch", "LPraiseDuels$RowSearch;", true)
  | _ => ("PraiseDuels", "faultPlace", "I", false)
def tyX10 : Nat → FieldType := fun k => match k with
  | 0 => .object "PraiseDuels$Meadow"
  | 1 => .object "PraiseDuels$Reader"
  | 2 => .object "PraiseDuels$Scene"
  | 3 => .array (.object "PraiseDuels$Scene")
  | 4 => .array .boolean
  | 5 => .object "PraiseDuels$Notes"
  | 6 => .object "PraiseDuels$Duel"
  | 7 => .object "PraiseDuels$BestSearch"
  | 8 => .object "PraiseDuels$RowSearch"
  | _ => .int
theorem nmX10 : ∀ a, a < 10 → ∀ b, b < 10 → a ≠ b → (TX10 a).2.1 ≠ (TX10 b).2.1 := by decide +kernel
theorem tyX10_ok : ∀ k, k < 10 → parseFieldDescriptor (TX10 k).2.2.1 = some (tyX10 k) := by decide +kernel
abbrev cX10_init : ByteArray := prog_1_method_1_code
def yX10_init : MethodName := ⟨RX10, "<init>", "()V"⟩
abbrev cX10_feed : ByteArray := prog_1_method_2_code
def yX10_feed : MethodName := ⟨RX10, "feed", "(I)I"⟩
abbrev cX10_meadow : ByteArray := prog_1_method_3_code
def yX10_meadow : MethodName := ⟨RX10, "meadow", "()I"⟩
abbrev cX10_fault : ByteArray := prog_1_method_4_code
def yX10_fault : MethodName := ⟨RX10, "fault", "()I"⟩
abbrev cX10_told : ByteArray := prog_1_method_5_code
def yX10_told : MethodName := ⟨RX10, "told", "(I)I"⟩
abbrev cX10_duellist : ByteArray := prog_1_method_6_code
def yX10_duellist : MethodName := ⟨RX10, "duellist", "(II)I"⟩
abbrev cX10_inDuel : ByteArray := prog_1_method_7_code
def yX10_inDuel : MethodName := ⟨RX10, "inDuel", "(II)I"⟩
abbrev cX10_compliment : ByteArray := prog_1_method_8_code
def yX10_compliment : MethodName := ⟨RX10, "compliment", "(II)I"⟩
abbrev cX10_truth : ByteArray := prog_1_method_9_code
def yX10_truth : MethodName := ⟨RX10, "truth", "(II)I"⟩
abbrev cX10_effect : ByteArray := prog_1_method_10_code
def yX10_effect : MethodName := ⟨RX10, "effect", "(II)I"⟩
abbrev cX10_duel : ByteArray := prog_1_method_11_code
def yX10_duel : MethodName := ⟨RX10, "duel", "(II)I"⟩
abbrev cX10_areTwo : ByteArray := prog_1_method_12_code
def yX10_areTwo : MethodName := ⟨RX10, "areTwo", "(II)Z"⟩
abbrev cX10_say : ByteArray := prog_1_method_13_code
def yX10_say : MethodName := ⟨RX10, "say", "(I)I"⟩
abbrev cX10_pass : ByteArray := prog_1_method_14_code
def yX10_pass : MethodName := ⟨RX10, "pass", "()I"⟩
abbrev cX10_sorr : ByteArray := prog_1_method_15_code
def yX10_sorr : MethodName := site_466
abbrev cX10_undo : ByteArray := prog_1_method_16_code
def yX10_undo : MethodName := ⟨RX10, "undo", "(I)I"⟩
abbrev cX10_act : ByteArray := prog_1_method_17_code
def yX10_act : MethodName := ⟨RX10, "act", "(II)I"⟩
abbrev cX10_vanity : ByteArray := prog_1_method_18_code
def yX10_vanity : MethodName := ⟨RX10, "vanity", "(III)I"⟩
abbrev cX10_isTopic : ByteArray := prog_1_method_19_code
def yX10_isTopic : MethodName := ⟨RX10, "isTopic", "(I)Z"⟩
abbrev cX10_drift : ByteArray := prog_1_method_20_code
def yX10_drift : MethodName := ⟨RX10, "drift", "(I)I"⟩
abbrev cX10_best : ByteArray := prog_1_method_21_code
def yX10_best : MethodName := ⟨RX10, "best", "(I)I"⟩
abbrev cX10_greatest : ByteArray := prog_1_method_22_code
def yX10_greatest : MethodName := ⟨RX10, "greatest", "(I)I"⟩
abbrev cX10_harden : ByteArray := prog_1_method_23_code
def yX10_harden : MethodName := ⟨RX10, "harden", "(IIII)I"⟩
abbrev cX10_deeds : ByteArray := prog_1_method_24_code
def yX10_deeds : MethodName := ⟨RX10, "deeds", "(III)I"⟩
abbrev cX10_league : ByteArray := prog_1_method_25_code
def yX10_league : MethodName := ⟨RX10, "league", "(I)I"⟩
abbrev cX10_met : ByteArray := prog_1_method_26_code
def yX10_met : MethodName := ⟨RX10, "met", "(II)I"⟩
abbrev cX10_shared : ByteArray := prog_1_method_27_code
def yX10_shared : MethodName := ⟨RX10, "shared", "(II)I"⟩
abbrev cX10_powder : ByteArray := prog_1_method_28_code
def yX10_powder : MethodName := ⟨RX10, "powder", "()I"⟩
abbrev cX10_warm : ByteArray := prog_1_method_29_code
def yX10_warm : MethodName := ⟨RX10, "warm", "(IIII)I"⟩
abbrev cX10_vain : ByteArray := prog_1_method_30_code
def yX10_vain : MethodName := ⟨RX10, "vain", "(II)I"⟩
abbrev cX10_probe : ByteArray := prog_1_method_31_code
def yX10_probe : MethodName := ⟨RX10, "probe", "(II)I"⟩
abbrev cX10_cheek : ByteArray := prog_1_method_32_code
def yX10_cheek : MethodName := ⟨RX10, "cheek", "(I)I"⟩
abbrev cX10_said : ByteArray := prog_1_method_33_code
def yX10_said : MethodName := ⟨RX10, "said", "(I)I"⟩
abbrev cX10_surely : ByteArray := prog_1_method_34_code
def yX10_surely : MethodName := ⟨RX10, "surely", "()I"⟩
abbrev cX10_write : ByteArray := prog_1_method_35_code
def yX10_write : MethodName := ⟨RX10, "write", "(I)I"⟩
abbrev cX10_judge : ByteArray := prog_1_method_36_code
def yX10_judge : MethodName := ⟨RX10, "judge", "(I)I"⟩
abbrev cX10_tear : ByteArray := prog_1_method_37_code
def yX10_tear : MethodName := ⟨RX10, "tear", "()I"⟩
abbrev cX10_seed : ByteArray := prog_1_method_38_code
def yX10_seed : MethodName := ⟨RX10, "seed", "(I)I"⟩
abbrev cX10_keep : ByteArray := prog_1_method_39_code
def yX10_keep : MethodName := ⟨RX10, "keep", "(I)I"⟩
abbrev cX10_goBack : ByteArray := prog_1_method_40_code
def yX10_goBack : MethodName := ⟨RX10, "goBack", "(I)I"⟩
abbrev cX10_isImage : ByteArray := prog_1_method_41_code
def yX10_isImage : MethodName := ⟨RX10, "isImage", "(I)Z"⟩
def RX11 : String := "PraiseDuelsModel"
def TX11 : u_T := fun k => match k with
  | 0 => ("PraiseDuelsModel", "thrown", "I", false)
  | 1 => ("PraiseDuelsModel", "text", "[I", true)
  | 2 => ("PraiseDuelsModel", "typed", "I", false)
  | 3 => ("PraiseDuelsModel", "next", "I", false)
  | 4 => ("PraiseDuelsModel", "token", "I", false)
  | 5 => ("PraiseDuelsModel", "place", "I", false)
  | 6 => ("PraiseDuelsModel", "value", "I", false)
  | 7 => ("PraiseDuelsModel", "figures", "I", false)
  | 8 => ("PraiseDuelsModel", "fault", "I", false)
  | 9 => ("PraiseDuelsModel", "faultAt", "I", false)
  | 10 => ("PraiseDuelsModel", "duellists", "I", false)
  | 11 => ("PraiseDuelsModel", "compliments", "I", false)
  | 12 => ("PraiseDuelsModel", "draftDuellists", "I", false)
  | 13 => ("PraiseDuelsModel", "draftCompliments", "I", false)
  | 14 => ("PraiseDuelsModel", "who", "[I", true)
  | 15 => ("PraiseDuelsModel", "what", "[I", true)
  | 16 => ("PraiseDuelsModel", "deed", "[I", true)
  | 17 => ("PraiseDuelsModel", "s", "[I", true)
  | 18 => ("PraiseDuelsModel", "w", "[I", true)
  | 19 => ("PraiseDuelsModel", "before", "[I", true)
  | 20 => ("PraiseDuelsModel", "kept", "[I", true)
  | 21 => ("PraiseDuelsModel", "keptBefore", "[I", true)
  | 22 => ("PraiseDuelsModel", "isKept", "[Z", true)
  | 23 => ("PraiseDuelsModel", "warmed", "[I", true)
  | 24 => ("PraiseDuelsModel", "warmMany", "I", false)
  | 25 => ("PraiseDuelsModel", "cheeks", "[I", true)
  | 26 => ("PraiseDuelsModel", "cheekMany", "I", false)
  | 27 => ("PraiseDuelsModel", "book", "[I", true)
  | 28 => ("PraiseDuelsModel", "bookMany", "I", false)
  | 29 => ("PraiseDuelsModel", "stack", "[I", true)
  | 30 => ("PraiseDuelsModel", "trying", "[I", true)
  | 31 => ("PraiseDuelsModel", "bestAt", "[I", true)
  | 32 => ("PraiseDuelsModel", "bestTurn", "I", false)
  | 33 => ("PraiseDuelsModel", "points", "[I", true)
  | _ => ("PraiseDuelsModel", "row", "[I", true)
def tyX11 : Nat → FieldType := fun k => match k with
  | 0 => .int
  | 1 => .array .int
  | 2 => .int
  | 3 => .int
  | 4 => .int
  | 5 => .int
  | 6 => .int
  | 7 => .int
  | 8 => .int
  | 9 => .int
  | 10 => .int
  | 11 => .int
  | 12 => .int
  | 13 => .int
  | 14 => .array .int
  | 15 => .array .int
  | 16 => .array .int
  | 17 => .array .int
  | 18 => .array .int
  | 19 => .array .int
  | 20 => .array .int
  | 21 => .array .int
  | 22 => .array .boolean
  | 23 => .array .int
  | 24 => .int
  | 25 => .array .int
  | 26 => .int
  | 27 => .array .int
  | 28 => .int
  | 29 => .array .int
  | 30 => .array .int
  | 31 => .array .int
  | 32 => .int
  | 33 => .array .int
  | _ => .array .int
theorem nmX11 : ∀ a, a < 35 → ∀ b, b < 35 → a ≠ b → (TX11 a).2.1 ≠ (TX11 b).2.1 := by decide +kernel
theorem tyX11_ok : ∀ k, k < 35 → parseFieldDescriptor (TX11 k).2.2.1 = some (tyX11 k) := by decide +kernel
abbrev cX11_init : ByteArray := prog_13_method_1_code
def yX11_init : MethodName := ⟨RX11, "<init>", "()V"⟩
abbrev cX11_in : ByteArray := prog_13_method_3_code
def yX11_in : MethodName := ⟨RX11, "in", "(III)Z"⟩
abbrev cX11_ones : ByteArray := prog_13_method_4_code
def yX11_ones : MethodName := ⟨RX11, "ones", "(I)I"⟩
abbrev cX11_feed : ByteArray := prog_13_method_5_code
def yX11_feed : MethodName := ⟨RX11, "feed", "(I)I"⟩
abbrev cX11_letterAt : ByteArray := prog_13_method_6_code
def yX11_letterAt : MethodName := ⟨RX11, "letterAt", "(I)I"⟩
abbrev cX11_advances : ByteArray := prog_13_method_7_code
def yX11_advances : MethodName := ⟨RX11, "advances", "()V"⟩
abbrev cX11_isWell : ByteArray := prog_13_method_8_code
def yX11_isWell : MethodName := ⟨RX11, "isWell", "()Z"⟩
abbrev cX11_fails : ByteArray := prog_13_method_9_code
def yX11_fails : MethodName := ⟨RX11, "fails", "(I)V"⟩
abbrev cX11_number : ByteArray := prog_13_method_10_code
def yX11_number : MethodName := ⟨RX11, "number", "(IIZ)I"⟩
abbrev cX11_clause : ByteArray := prog_13_method_11_code
def yX11_clause : MethodName := ⟨RX11, "clause", "(I)V"⟩
abbrev cX11_faultOf : ByteArray := prog_13_method_12_code
def yX11_faultOf : MethodName := ⟨RX11, "faultOf", "()I"⟩
abbrev cX11_ends : ByteArray := prog_13_method_13_code
def yX11_ends : MethodName := ⟨RX11, "ends", "()V"⟩
abbrev cX11_meadow : ByteArray := prog_13_method_14_code
def yX11_meadow : MethodName := ⟨RX11, "meadow", "()I"⟩
abbrev cX11_settles : ByteArray := prog_13_method_15_code
def yX11_settles : MethodName := ⟨RX11, "settles", "()V"⟩
abbrev cX11_fault : ByteArray := prog_13_method_16_code
def yX11_fault : MethodName := ⟨RX11, "fault", "()I"⟩
abbrev cX11_isDuellist : ByteArray := prog_13_method_17_code
def yX11_isDuellist : MethodName := ⟨RX11, "isDuellist", "(I)Z"⟩
abbrev cX11_isCompliment : ByteArray := prog_13_method_18_code
def yX11_isCompliment : MethodName := ⟨RX11, "isCompliment", "(I)Z"⟩
abbrev cX11_isDuel : ByteArray := prog_13_method_19_code
def yX11_isDuel : MethodName := ⟨RX11, "isDuel", "()Z"⟩
abbrev cX11_goesOn : ByteArray := prog_13_method_20_code
def yX11_goesOn : MethodName := ⟨RX11, "goesOn", "()Z"⟩
abbrev cX11_whose : ByteArray := prog_13_method_21_code
def yX11_whose : MethodName := ⟨RX11, "whose", "()I"⟩
abbrev cX11_told : ByteArray := prog_13_method_22_code
def yX11_told : MethodName := ⟨RX11, "told", "(I)I"⟩
abbrev cX11_sideOf : ByteArray := prog_13_method_23_code
def yX11_sideOf : MethodName := ⟨RX11, "sideOf", "(I)I"⟩
abbrev cX11_duellist : ByteArray := prog_13_method_24_code
def yX11_duellist : MethodName := ⟨RX11, "duellist", "(II)I"⟩
abbrev cX11_compliment : ByteArray := prog_13_method_25_code
def yX11_compliment : MethodName := ⟨RX11, "compliment", "(II)I"⟩
abbrev cX11_truthBy : ByteArray := prog_13_method_26_code
def yX11_truthBy : MethodName := ⟨RX11, "truthBy", "(II)I"⟩
abbrev cX11_truth : ByteArray := prog_13_method_27_code
def yX11_truth : MethodName := ⟨RX11, "truth", "(II)I"⟩
abbrev cX11_effectBy : ByteArray := prog_13_method_28_code
def yX11_effectBy : MethodName := ⟨RX11, "effectBy", "(IIII)I"⟩
abbrev cX11_vanityOf : ByteArray := prog_13_method_29_code
def yX11_vanityOf : MethodName := ⟨RX11, "vanityOf", "(II)I"⟩
abbrev cX11_firstTold : ByteArray := prog_13_method_30_code
def yX11_firstTold : MethodName := ⟨RX11, "firstTold", "(II)I"⟩
abbrev cX11_effect : ByteArray := prog_13_method_31_code
def yX11_effect : MethodName := ⟨RX11, "effect", "(II)I"⟩
abbrev cX11_duel : ByteArray := prog_13_method_32_code
def yX11_duel : MethodName := ⟨RX11, "duel", "(II)I"⟩
abbrev cX11_pairOf : ByteArray := prog_13_method_33_code
def yX11_pairOf : MethodName := ⟨RX11, "pairOf", "(II)I"⟩
abbrev cX11_over : ByteArray := prog_13_method_34_code
def yX11_over : MethodName := ⟨RX11, "over", "([II)V"⟩
abbrev cX11_canTurn : ByteArray := prog_13_method_35_code
def yX11_canTurn : MethodName := ⟨RX11, "canTurn", "([II)Z"⟩
abbrev cX11_says : ByteArray := prog_13_method_36_code
def yX11_says : MethodName := ⟨RX11, "says", "([II)V"⟩
abbrev cX11_turns : ByteArray := prog_13_method_37_code
def yX11_turns : MethodName := ⟨RX11, "turns", "([II)V"⟩
abbrev cX11_does : ByteArray := prog_13_method_38_code
def yX11_does : MethodName := ⟨RX11, "does", "(I)V"⟩
abbrev cX11_say : ByteArray := prog_13_method_39_code
def yX11_say : MethodName := ⟨RX11, "say", "(I)I"⟩
abbrev cX11_pass : ByteArray := prog_13_method_40_code
def yX11_pass : MethodName := ⟨RX11, "pass", "()I"⟩
abbrev cX11_sorr : ByteArray := prog_13_method_41_code
def yX11_sorr : MethodName := site_470
abbrev cX11_undo : ByteArray := prog_13_method_42_code
def yX11_undo : MethodName := ⟨RX11, "undo", "(I)I"⟩
abbrev cX11_act : ByteArray := prog_13_method_43_code
def yX11_act : MethodName := ⟨RX11, "act", "(II)I"⟩
abbrev cX11_vanity : ByteArray := prog_13_method_44_code
def yX11_vanity : MethodName := ⟨RX11, "vanity", "(III)I"⟩
abbrev cX11_draw : ByteArray := prog_13_method_45_code
def yX11_draw : MethodName := ⟨RX11, "draw", "(I)I"⟩
abbrev cX11_unsaid : ByteArray := prog_13_method_46_code
def yX11_unsaid : MethodName := ⟨RX11, "unsaid", "(I)I"⟩
abbrev cX11_drift : ByteArray := prog_13_method_47_code
def yX11_drift : MethodName := ⟨RX11, "drift", "(I)I"⟩
abbrev cX11_merges : ByteArray := prog_13_method_48_code
def yX11_merges : MethodName := ⟨RX11, "merges", "(II)V"⟩
abbrev cX11_loads : ByteArray := prog_13_method_49_code
def yX11_loads : MethodName := ⟨RX11, "loads", "(I)V"⟩
abbrev cX11_pushes : ByteArray := prog_13_method_50_code
def yX11_pushes : MethodName := ⟨RX11, "pushes", "(I)V"⟩
abbrev cX11_asNow : ByteArray := prog_13_method_51_code
def yX11_asNow : MethodName := ⟨RX11, "asNow", "()V"⟩
abbrev cX11_plays : ByteArray := prog_13_method_52_code
def yX11_plays : MethodName := ⟨RX11, "plays", "()I"⟩
abbrev cX11_best : ByteArray := prog_13_method_53_code
def yX11_best : MethodName := ⟨RX11, "best", "(I)I"⟩
abbrev cX11_against : ByteArray := prog_13_method_54_code
def yX11_against : MethodName := ⟨RX11, "against", "()I"⟩
abbrev cX11_effectNow : ByteArray := prog_13_method_55_code
def yX11_effectNow : MethodName := ⟨RX11, "effectNow", "(I)I"⟩
abbrev cX11_greatest : ByteArray := prog_13_method_56_code
def yX11_greatest : MethodName := ⟨RX11, "greatest", "(I)I"⟩
abbrev cX11_less : ByteArray := prog_13_method_57_code
def yX11_less : MethodName := ⟨RX11, "less", "(III)I"⟩
abbrev cX11_harden : ByteArray := prog_13_method_58_code
def yX11_harden : MethodName := ⟨RX11, "harden", "(IIII)I"⟩
abbrev cX11_deeds : ByteArray := prog_13_method_59_code
def yX11_deeds : MethodName := ⟨RX11, "deeds", "(III)I"⟩
abbrev cX11_leftOf : ByteArray := prog_13_method_60_code
def yX11_leftOf : MethodName := ⟨RX11, "leftOf", "(III)I"⟩
abbrev cX11_counted : ByteArray := prog_13_method_61_code
def yX11_counted : MethodName := ⟨RX11, "counted", "(I)V"⟩
abbrev cX11_isFirst : ByteArray := prog_13_method_62_code
def yX11_isFirst : MethodName := ⟨RX11, "isFirst", "(III)Z"⟩
abbrev cX11_league : ByteArray := prog_13_method_63_code
def yX11_league : MethodName := ⟨RX11, "league", "(I)I"⟩
abbrev cX11_met : ByteArray := prog_13_method_64_code
def yX11_met : MethodName := ⟨RX11, "met", "(II)I"⟩
abbrev cX11_shared : ByteArray := prog_13_method_65_code
def yX11_shared : MethodName := ⟨RX11, "shared", "(II)I"⟩
abbrev cX11_powder : ByteArray := prog_13_method_66_code
def yX11_powder : MethodName := ⟨RX11, "powder", "()I"⟩
abbrev cX11_warm : ByteArray := prog_13_method_67_code
def yX11_warm : MethodName := ⟨RX11, "warm", "(IIII)I"⟩
abbrev cX11_vanities : ByteArray := prog_13_method_68_code
def yX11_vanities : MethodName := ⟨RX11, "vanities", "(II)I"⟩
abbrev cX11_vain : ByteArray := prog_13_method_69_code
def yX11_vain : MethodName := ⟨RX11, "vain", "(II)I"⟩
abbrev cX11_greatestPart : ByteArray := prog_13_method_70_code
def yX11_greatestPart : MethodName := ⟨RX11, "greatestPart", "(III)I"⟩
abbrev cX11_probe : ByteArray := prog_13_method_71_code
def yX11_probe : MethodName := ⟨RX11, "probe", "(II)I"⟩
abbrev cX11_cheek : ByteArray := prog_13_method_72_code
def yX11_cheek : MethodName := ⟨RX11, "cheek", "(I)I"⟩
abbrev cX11_isRow : ByteArray := prog_13_method_73_code
def yX11_isRow : MethodName := ⟨RX11, "isRow", "(I)Z"⟩
abbrev cX11_said : ByteArray := prog_13_method_74_code
def yX11_said : MethodName := ⟨RX11, "said", "(I)I"⟩
abbrev cX11_surely : ByteArray := prog_13_method_75_code
def yX11_surely : MethodName := ⟨RX11, "surely", "()I"⟩
abbrev cX11_write : ByteArray := prog_13_method_76_code
def yX11_write : MethodName := ⟨RX11, "write", "(I)I"⟩
abbrev cX11_judge : ByteArray := prog_13_method_77_code
def yX11_judge : MethodName := ⟨RX11, "judge", "(I)I"⟩
abbrev cX11_tear : ByteArray := prog_13_method_78_code
def yX11_tear : MethodName := ⟨RX11, "tear", "()I"⟩
abbrev cX11_seed : ByteArray := prog_13_method_79_code
def yX11_seed : MethodName := ⟨RX11, "seed", "(I)I"⟩
abbrev cX11_keep : ByteArray := prog_13_method_80_code
def yX11_keep : MethodName := ⟨RX11, "keep", "(I)I"⟩
abbrev cX11_goBack : ByteArray := prog_13_method_81_code
def yX11_goBack : MethodName := ⟨RX11, "goBack", "(I)I"⟩
def RL : String := "PraiseDuelsLaw"
abbrev vwCl : List vw_C := [(RX0, TX0, 4), (RX1, TX1, 2), (RX2, TX2, 3), (RX3, TX3, 5), (RX4, TX4, 6), (RX5, TX5, 7), (RX6, TX6, 7), (RX7, TX7, 8), (RX9, TX9, 4), (RX10, TX10, 10), (RX11, TX11, 35)]
def yL_law : MethodName := ⟨RL, "law", "([I)Z"⟩
def yJ_bitCount : MethodName := ⟨"java/lang/Integer", "bitCount", "(I)I"⟩
def yJ_max : MethodName := ⟨"java/lang/Math", "max", "(II)I"⟩
def yJ_min : MethodName := ⟨"java/lang/Math", "min", "(II)I"⟩
def zTW : List Cond := lw_tbl.filter goodWord
theorem zw_of {w : Cond} (h : w ∈ tables_1) (g : goodWord w = true) : w ∈ zTW := List.mem_filter.mpr ⟨List.mem_append_right _ h, g⟩
theorem zw_sel {w : Cond} (h : w ∈ k2_sels lw_privs) (g : goodWord w = true) : w ∈ zTW := List.mem_filter.mpr ⟨List.mem_append_left _ h, g⟩
theorem zw_good {w : Cond} (h : w ∈ zTW) : w ∈ lw_tbl ∧ ((w.onTables && w.keeps) = true ∨ ∃ ty, w = .arrayClass ty) := ⟨(List.mem_filter.mp h).1, good_of_word (List.mem_filter.mp h).2⟩
abbrev zMI : Type := MethodName × ByteArray × Nat × Option FieldType
def zFL (own : String) (idx ci k : Nat) : Prop := ∃ q : vw_C, vwCl[ci]? = some q ∧ k < q.2.2 ∧ Cond.fieldLink own idx (q.2.1 k).1 (q.2.1 k).2.1 (q.2.1 k).2.2.1 ∈ zTW
def zFG (own : String) (idx ci k : Nat) : Prop := zFL own idx ci k
def zMB (y : zMI) (n : Nat) : Prop := Cond.initialized y.1.cls ∈ zTW ∧ Cond.code y.1 y.2.1 y.2.2.1 y.2.2.2 ∈ zTW ∧ (y.1.cls ≠ "java/lang/invoke/MethodHandle" ∧ y.1.cls ≠ "java/lang/invoke/VarHandle" ∧ (parseMethodDescriptor y.1.desc).map (fun d => d.parameters.length) = some n) ∧ plainFor y.1 = true ∧ y.2.2.1 ≤ 20
def zMV (y : zMI) (n : Nat) : Prop := zMB y n ∧ Cond.instanceMethod y.1 ∈ zTW ∧ Cond.selects y.1.cls y.1 y.1 ∈ zTW
def zMS (y : zMI) (n : Nat) : Prop := zMB y n ∧ Cond.static y.1 ∈ zTW
def zMC (y : zMI) (n : Nat) : Prop := zMB y n ∧ Cond.instanceMethod y.1 ∈ zTW ∧ y.1.name = "<init>" ∧ y.2.2.2 = none
def zML (own : String) (idx : Nat) (y : zMI) : Prop := Cond.methodLink own idx y.1 ∈ zTW
def zNW : List Cond := [.methodLinkNest RX10 9 yX4_init RX10, .methodLinkNest RX10 18 yX6_init RX10, .methodLinkNest RX6 11 yX4_init RX10, .methodLinkNest RX9 11 yX3_init RX10, .methodLinkNest RX10 42 yX5_init RX10]
def zKI (own : String) (idx : Nat) (v : Int32) : Prop := Cond.constant own idx v ∈ zTW
def zKL (own : String) (idx : Nat) (v : Int64) : Prop := Cond.constantLong own idx v ∈ zTW
def zNC (own : String) (idx ci : Nat) : Prop := ∃ q : vw_C, vwCl[ci]? = some q ∧ Cond.classLink own idx q.1 ∈ zTW ∧ Cond.instantiable q.1 q.2.2 ∈ zTW ∧ Cond.initialized q.1 ∈ zTW
def zOI (own : String) (idx : Nat) : Prop := Cond.methodLink own idx objectInit ∈ zTW
def zSt (j : Nat) : String × String := match j with
  | 0 => ("PraiseDuels$Reader", "TRAIT_LEAST")
  | 1 => ("PraiseDuels$Reader", "TRAIT_MOST")
  | 2 => ("PraiseDuels$Reader", "PART_LEAST")
  | 3 => ("PraiseDuels$Reader", "PART_MOST")
  | 4 => ("PraiseDuels$League", "LOW")
  | _ => ("PraiseDuels$League", "HIGH")
def zGS (own : String) (idx j : Nat) : Prop := Cond.fieldLink own idx (zSt j).1 (zSt j).2 "[I" ∈ zTW
theorem fl_X4_24 : zFL RX4 24 4 0 := ⟨(RX4, TX4, 6), rfl, by decide, zw_of (List.mem_of_getElem? (i := 30) (by decide +kernel)) rfl⟩
theorem fl_X10_106 : zFL RX10 106 4 0 := ⟨(RX4, TX4, 6), rfl, by decide, zw_of (List.mem_of_getElem? (i := 31) (by decide +kernel)) rfl⟩
theorem fl_X6_64 : zFL RX6 64 4 0 := ⟨(RX4, TX4, 6), rfl, by decide, zw_of (List.mem_of_getElem? (i := 32) (by decide +kernel)) rfl⟩
theorem fl_X4_28 : zFL RX4 28 4 1 := ⟨(RX4, TX4, 6), rfl, by decide, zw_of (List.mem_of_getElem? (i := 33) (by decide +kernel)) rfl⟩
theorem fl_X7_84 : zFL RX7 84 4 1 := ⟨(RX4, TX4, 6), rfl, by decide, zw_of (List.mem_of_getElem? (i := 34) (by decide +kernel)) rfl⟩
theorem fl_X6_87 : zFL RX6 87 4 1 := ⟨(RX4, TX4, 6), rfl, by decide, zw_of (List.mem_of_getElem? (i := 35) (by decide +kernel)) rfl⟩
theorem fl_X10_112 : zFL RX10 112 4 1 := ⟨(RX4, TX4, 6), rfl, by decide, zw_of (List.mem_of_getElem? (i := 36) (by decide +kernel)) rfl⟩
theorem fl_X9_97 : zFL RX9 97 4 1 := ⟨(RX4, TX4, 6), rfl, by decide, zw_of (List.mem_of_getElem? (i := 37) (by decide +kernel)) rfl⟩
theorem fl_X2_61 : zFL RX2 61 4 1 := ⟨(RX4, TX4, 6), rfl, by decide, zw_of (List.mem_of_getElem? (i := 38) (by decide +kernel)) rfl⟩
theorem fl_X5_77 : zFL RX5 77 4 1 := ⟨(RX4, TX4, 6), rfl, by decide, zw_of (List.mem_of_getElem? (i := 39) (by decide +kernel)) rfl⟩
theorem fl_X4_11 : zFL RX4 11 4 2 := ⟨(RX4, TX4, 6), rfl, by decide, zw_of (List.mem_of_getElem? (i := 40) (by decide +kernel)) rfl⟩
theorem fl_X6_81 : zFL RX6 81 4 2 := ⟨(RX4, TX4, 6), rfl, by decide, zw_of (List.mem_of_getElem? (i := 41) (by decide +kernel)) rfl⟩
theorem fl_X4_15 : zFL RX4 15 4 3 := ⟨(RX4, TX4, 6), rfl, by decide, zw_of (List.mem_of_getElem? (i := 42) (by decide +kernel)) rfl⟩
theorem fl_X6_96 : zFL RX6 96 4 3 := ⟨(RX4, TX4, 6), rfl, by decide, zw_of (List.mem_of_getElem? (i := 43) (by decide +kernel)) rfl⟩
theorem fl_X4_18 : zFL RX4 18 4 4 := ⟨(RX4, TX4, 6), rfl, by decide, zw_of (List.mem_of_getElem? (i := 44) (by decide +kernel)) rfl⟩
theorem fl_X2_41 : zFL RX2 41 4 4 := ⟨(RX4, TX4, 6), rfl, by decide, zw_of (List.mem_of_getElem? (i := 45) (by decide +kernel)) rfl⟩
theorem fl_X4_21 : zFL RX4 21 4 5 := ⟨(RX4, TX4, 6), rfl, by decide, zw_of (List.mem_of_getElem? (i := 46) (by decide +kernel)) rfl⟩
theorem fl_X2_22 : zFL RX2 22 4 5 := ⟨(RX4, TX4, 6), rfl, by decide, zw_of (List.mem_of_getElem? (i := 47) (by decide +kernel)) rfl⟩
theorem fl_X6_102 : zFL RX6 102 4 5 := ⟨(RX4, TX4, 6), rfl, by decide, zw_of (List.mem_of_getElem? (i := 48) (by decide +kernel)) rfl⟩
theorem fl_X6_12 : zFL RX6 12 6 0 := ⟨(RX6, TX6, 7), rfl, by decide, zw_of (List.mem_of_getElem? (i := 71) (by decide +kernel)) rfl⟩
theorem fl_X10_94 : zFL RX10 94 6 0 := ⟨(RX6, TX6, 7), rfl, by decide, zw_of (List.mem_of_getElem? (i := 72) (by decide +kernel)) rfl⟩
theorem fl_X6_18 : zFL RX6 18 6 1 := ⟨(RX6, TX6, 7), rfl, by decide, zw_of (List.mem_of_getElem? (i := 73) (by decide +kernel)) rfl⟩
theorem fl_X6_22 : zFL RX6 22 6 2 := ⟨(RX6, TX6, 7), rfl, by decide, zw_of (List.mem_of_getElem? (i := 74) (by decide +kernel)) rfl⟩
theorem fl_X10_81 : zFL RX10 81 6 2 := ⟨(RX6, TX6, 7), rfl, by decide, zw_of (List.mem_of_getElem? (i := 75) (by decide +kernel)) rfl⟩
theorem fl_X6_38 : zFL RX6 38 6 3 := ⟨(RX6, TX6, 7), rfl, by decide, zw_of (List.mem_of_getElem? (i := 76) (by decide +kernel)) rfl⟩
theorem fl_X10_93 : zFL RX10 93 6 3 := ⟨(RX6, TX6, 7), rfl, by decide, zw_of (List.mem_of_getElem? (i := 77) (by decide +kernel)) rfl⟩
theorem fl_X6_35 : zFL RX6 35 6 4 := ⟨(RX6, TX6, 7), rfl, by decide, zw_of (List.mem_of_getElem? (i := 78) (by decide +kernel)) rfl⟩
theorem fl_X6_41 : zFL RX6 41 6 5 := ⟨(RX6, TX6, 7), rfl, by decide, zw_of (List.mem_of_getElem? (i := 79) (by decide +kernel)) rfl⟩
theorem fl_X6_105 : zFL RX6 105 6 6 := ⟨(RX6, TX6, 7), rfl, by decide, zw_of (List.mem_of_getElem? (i := 80) (by decide +kernel)) rfl⟩
theorem fl_X3_9 : zFL RX3 9 3 0 := ⟨(RX3, TX3, 5), rfl, by decide, zw_of (List.mem_of_getElem? (i := 108) (by decide +kernel)) rfl⟩
theorem fl_X3_15 : zFL RX3 15 3 1 := ⟨(RX3, TX3, 5), rfl, by decide, zw_of (List.mem_of_getElem? (i := 109) (by decide +kernel)) rfl⟩
theorem fl_X3_18 : zFL RX3 18 3 2 := ⟨(RX3, TX3, 5), rfl, by decide, zw_of (List.mem_of_getElem? (i := 110) (by decide +kernel)) rfl⟩
theorem fl_X3_21 : zFL RX3 21 3 3 := ⟨(RX3, TX3, 5), rfl, by decide, zw_of (List.mem_of_getElem? (i := 111) (by decide +kernel)) rfl⟩
theorem fl_X3_24 : zFL RX3 24 3 4 := ⟨(RX3, TX3, 5), rfl, by decide, zw_of (List.mem_of_getElem? (i := 112) (by decide +kernel)) rfl⟩
theorem fl_X1_11 : zFL RX1 11 1 0 := ⟨(RX1, TX1, 2), rfl, by decide, zw_of (List.mem_of_getElem? (i := 144) (by decide +kernel)) rfl⟩
theorem fl_X1_15 : zFL RX1 15 1 1 := ⟨(RX1, TX1, 2), rfl, by decide, zw_of (List.mem_of_getElem? (i := 145) (by decide +kernel)) rfl⟩
theorem fl_X0_19 : zFL RX0 19 2 0 := ⟨(RX2, TX2, 3), rfl, by decide, zw_of (List.mem_of_getElem? (i := 157) (by decide +kernel)) rfl⟩
theorem fl_X2_18 : zFL RX2 18 2 0 := ⟨(RX2, TX2, 3), rfl, by decide, zw_of (List.mem_of_getElem? (i := 158) (by decide +kernel)) rfl⟩
theorem fl_X9_59 : zFL RX9 59 2 0 := ⟨(RX2, TX2, 3), rfl, by decide, zw_of (List.mem_of_getElem? (i := 159) (by decide +kernel)) rfl⟩
theorem fl_X7_78 : zFL RX7 78 2 0 := ⟨(RX2, TX2, 3), rfl, by decide, zw_of (List.mem_of_getElem? (i := 160) (by decide +kernel)) rfl⟩
theorem fl_X5_52 : zFL RX5 52 2 0 := ⟨(RX2, TX2, 3), rfl, by decide, zw_of (List.mem_of_getElem? (i := 161) (by decide +kernel)) rfl⟩
theorem fl_X1_67 : zFL RX1 67 2 0 := ⟨(RX2, TX2, 3), rfl, by decide, zw_of (List.mem_of_getElem? (i := 162) (by decide +kernel)) rfl⟩
theorem fl_X2_9 : zFL RX2 9 2 1 := ⟨(RX2, TX2, 3), rfl, by decide, zw_of (List.mem_of_getElem? (i := 163) (by decide +kernel)) rfl⟩
theorem fl_X10_206 : zFL RX10 206 2 1 := ⟨(RX2, TX2, 3), rfl, by decide, zw_of (List.mem_of_getElem? (i := 164) (by decide +kernel)) rfl⟩
theorem fl_X2_15 : zFL RX2 15 2 2 := ⟨(RX2, TX2, 3), rfl, by decide, zw_of (List.mem_of_getElem? (i := 165) (by decide +kernel)) rfl⟩
theorem fl_X10_219 : zFL RX10 219 2 2 := ⟨(RX2, TX2, 3), rfl, by decide, zw_of (List.mem_of_getElem? (i := 166) (by decide +kernel)) rfl⟩
theorem fl_X9_30 : zFL RX9 30 8 0 := ⟨(RX9, TX9, 4), rfl, by decide, zw_of (List.mem_of_getElem? (i := 174) (by decide +kernel)) rfl⟩
theorem fl_X10_56 : zFL RX10 56 8 0 := ⟨(RX9, TX9, 4), rfl, by decide, zw_of (List.mem_of_getElem? (i := 175) (by decide +kernel)) rfl⟩
theorem fl_X9_12 : zFL RX9 12 8 1 := ⟨(RX9, TX9, 4), rfl, by decide, zw_of (List.mem_of_getElem? (i := 176) (by decide +kernel)) rfl⟩
theorem fl_X10_154 : zFL RX10 154 8 1 := ⟨(RX9, TX9, 4), rfl, by decide, zw_of (List.mem_of_getElem? (i := 177) (by decide +kernel)) rfl⟩
theorem fl_X9_21 : zFL RX9 21 8 2 := ⟨(RX9, TX9, 4), rfl, by decide, zw_of (List.mem_of_getElem? (i := 178) (by decide +kernel)) rfl⟩
theorem fl_X10_109 : zFL RX10 109 8 2 := ⟨(RX9, TX9, 4), rfl, by decide, zw_of (List.mem_of_getElem? (i := 179) (by decide +kernel)) rfl⟩
theorem fl_X9_51 : zFL RX9 51 8 3 := ⟨(RX9, TX9, 4), rfl, by decide, zw_of (List.mem_of_getElem? (i := 180) (by decide +kernel)) rfl⟩
theorem fl_X10_294 : zFL RX10 294 8 3 := ⟨(RX9, TX9, 4), rfl, by decide, zw_of (List.mem_of_getElem? (i := 181) (by decide +kernel)) rfl⟩
theorem fl_X5_11 : zFL RX5 11 5 0 := ⟨(RX5, TX5, 7), rfl, by decide, zw_of (List.mem_of_getElem? (i := 198) (by decide +kernel)) rfl⟩
theorem fl_X5_15 : zFL RX5 15 5 1 := ⟨(RX5, TX5, 7), rfl, by decide, zw_of (List.mem_of_getElem? (i := 199) (by decide +kernel)) rfl⟩
theorem fl_X5_18 : zFL RX5 18 5 2 := ⟨(RX5, TX5, 7), rfl, by decide, zw_of (List.mem_of_getElem? (i := 200) (by decide +kernel)) rfl⟩
theorem fl_X5_21 : zFL RX5 21 5 3 := ⟨(RX5, TX5, 7), rfl, by decide, zw_of (List.mem_of_getElem? (i := 201) (by decide +kernel)) rfl⟩
theorem fl_X5_24 : zFL RX5 24 5 4 := ⟨(RX5, TX5, 7), rfl, by decide, zw_of (List.mem_of_getElem? (i := 202) (by decide +kernel)) rfl⟩
theorem fl_X10_128 : zFL RX10 128 5 4 := ⟨(RX5, TX5, 7), rfl, by decide, zw_of (List.mem_of_getElem? (i := 203) (by decide +kernel)) rfl⟩
theorem fl_X5_28 : zFL RX5 28 5 5 := ⟨(RX5, TX5, 7), rfl, by decide, zw_of (List.mem_of_getElem? (i := 204) (by decide +kernel)) rfl⟩
theorem fl_X7_67 : zFL RX7 67 5 5 := ⟨(RX5, TX5, 7), rfl, by decide, zw_of (List.mem_of_getElem? (i := 205) (by decide +kernel)) rfl⟩
theorem fl_X10_131 : zFL RX10 131 5 5 := ⟨(RX5, TX5, 7), rfl, by decide, zw_of (List.mem_of_getElem? (i := 206) (by decide +kernel)) rfl⟩
theorem fl_X5_31 : zFL RX5 31 5 6 := ⟨(RX5, TX5, 7), rfl, by decide, zw_of (List.mem_of_getElem? (i := 207) (by decide +kernel)) rfl⟩
theorem fl_X10_134 : zFL RX10 134 5 6 := ⟨(RX5, TX5, 7), rfl, by decide, zw_of (List.mem_of_getElem? (i := 208) (by decide +kernel)) rfl⟩
theorem fl_X0_9 : zFL RX0 9 0 0 := ⟨(RX0, TX0, 4), rfl, by decide, zw_of (List.mem_of_getElem? (i := 233) (by decide +kernel)) rfl⟩
theorem fl_X0_15 : zFL RX0 15 0 1 := ⟨(RX0, TX0, 4), rfl, by decide, zw_of (List.mem_of_getElem? (i := 234) (by decide +kernel)) rfl⟩
theorem fl_X0_25 : zFL RX0 25 0 2 := ⟨(RX0, TX0, 4), rfl, by decide, zw_of (List.mem_of_getElem? (i := 235) (by decide +kernel)) rfl⟩
theorem fl_X0_26 : zFL RX0 26 0 3 := ⟨(RX0, TX0, 4), rfl, by decide, zw_of (List.mem_of_getElem? (i := 236) (by decide +kernel)) rfl⟩
theorem fl_X10_234 : zFL RX10 234 0 3 := ⟨(RX0, TX0, 4), rfl, by decide, zw_of (List.mem_of_getElem? (i := 237) (by decide +kernel)) rfl⟩
theorem fl_X7_23 : zFL RX7 23 7 0 := ⟨(RX7, TX7, 8), rfl, by decide, zw_of (List.mem_of_getElem? (i := 253) (by decide +kernel)) rfl⟩
theorem fl_X7_27 : zFL RX7 27 7 1 := ⟨(RX7, TX7, 8), rfl, by decide, zw_of (List.mem_of_getElem? (i := 254) (by decide +kernel)) rfl⟩
theorem fl_X7_11 : zFL RX7 11 7 2 := ⟨(RX7, TX7, 8), rfl, by decide, zw_of (List.mem_of_getElem? (i := 255) (by decide +kernel)) rfl⟩
theorem fl_X7_17 : zFL RX7 17 7 3 := ⟨(RX7, TX7, 8), rfl, by decide, zw_of (List.mem_of_getElem? (i := 256) (by decide +kernel)) rfl⟩
theorem fl_X7_20 : zFL RX7 20 7 4 := ⟨(RX7, TX7, 8), rfl, by decide, zw_of (List.mem_of_getElem? (i := 257) (by decide +kernel)) rfl⟩
theorem fl_X7_44 : zFL RX7 44 7 5 := ⟨(RX7, TX7, 8), rfl, by decide, zw_of (List.mem_of_getElem? (i := 258) (by decide +kernel)) rfl⟩
theorem fl_X7_57 : zFL RX7 57 7 6 := ⟨(RX7, TX7, 8), rfl, by decide, zw_of (List.mem_of_getElem? (i := 259) (by decide +kernel)) rfl⟩
theorem fl_X10_278 : zFL RX10 278 7 6 := ⟨(RX7, TX7, 8), rfl, by decide, zw_of (List.mem_of_getElem? (i := 260) (by decide +kernel)) rfl⟩
theorem fl_X7_60 : zFL RX7 60 7 7 := ⟨(RX7, TX7, 8), rfl, by decide, zw_of (List.mem_of_getElem? (i := 261) (by decide +kernel)) rfl⟩
theorem fl_X10_284 : zFL RX10 284 7 7 := ⟨(RX7, TX7, 8), rfl, by decide, zw_of (List.mem_of_getElem? (i := 262) (by decide +kernel)) rfl⟩
theorem fl_X10_10 : zFL RX10 10 9 0 := ⟨(RX10, TX10, 10), rfl, by decide, zw_of (List.mem_of_getElem? (i := 280) (by decide +kernel)) rfl⟩
theorem fl_X10_19 : zFL RX10 19 9 1 := ⟨(RX10, TX10, 10), rfl, by decide, zw_of (List.mem_of_getElem? (i := 281) (by decide +kernel)) rfl⟩
theorem fl_X10_28 : zFL RX10 28 9 2 := ⟨(RX10, TX10, 10), rfl, by decide, zw_of (List.mem_of_getElem? (i := 282) (by decide +kernel)) rfl⟩
theorem fl_X10_32 : zFL RX10 32 9 3 := ⟨(RX10, TX10, 10), rfl, by decide, zw_of (List.mem_of_getElem? (i := 283) (by decide +kernel)) rfl⟩
theorem fl_X10_36 : zFL RX10 36 9 4 := ⟨(RX10, TX10, 10), rfl, by decide, zw_of (List.mem_of_getElem? (i := 284) (by decide +kernel)) rfl⟩
theorem fl_X10_43 : zFL RX10 43 9 5 := ⟨(RX10, TX10, 10), rfl, by decide, zw_of (List.mem_of_getElem? (i := 285) (by decide +kernel)) rfl⟩
theorem fl_X10_50 : zFL RX10 50 9 6 := ⟨(RX10, TX10, 10), rfl, by decide, zw_of (List.mem_of_getElem? (i := 286) (by decide +kernel)) rfl⟩
theorem fl_X10_63 : zFL RX10 63 9 7 := ⟨(RX10, TX10, 10), rfl, by decide, zw_of (List.mem_of_getElem? (i := 287) (by decide +kernel)) rfl⟩
theorem fl_X10_72 : zFL RX10 72 9 8 := ⟨(RX10, TX10, 10), rfl, by decide, zw_of (List.mem_of_getElem? (i := 288) (by decide +kernel)) rfl⟩
theorem fl_X10_76 : zFL RX10 76 9 9 := ⟨(RX10, TX10, 10), rfl, by decide, zw_of (List.mem_of_getElem? (i := 289) (by decide +kernel)) rfl⟩
theorem gs_X6_67 : zGS RX6 67 0 := zw_of (List.mem_of_getElem? (i := 354) (by decide +kernel)) rfl
theorem gs_X6_74 : zGS RX6 74 1 := zw_of (List.mem_of_getElem? (i := 356) (by decide +kernel)) rfl
theorem gs_X6_90 : zGS RX6 90 2 := zw_of (List.mem_of_getElem? (i := 370) (by decide +kernel)) rfl
theorem gs_X6_93 : zGS RX6 93 3 := zw_of (List.mem_of_getElem? (i := 372) (by decide +kernel)) rfl
theorem gs_X3_45 : zGS RX3 45 4 := zw_of (List.mem_of_getElem? (i := 605) (by decide +kernel)) rfl
theorem gs_X3_53 : zGS RX3 53 5 := zw_of (List.mem_of_getElem? (i := 608) (by decide +kernel)) rfl
theorem fl_X11_69 : zFL RX11 69 10 0 := ⟨(RX11, TX11, 35), rfl, by decide, zw_of (List.mem_of_getElem? (i := 922) (by decide +kernel)) rfl⟩
theorem fl_X11_7 : zFL RX11 7 10 1 := ⟨(RX11, TX11, 35), rfl, by decide, zw_of (List.mem_of_getElem? (i := 923) (by decide +kernel)) rfl⟩
theorem fl_X11_77 : zFL RX11 77 10 2 := ⟨(RX11, TX11, 35), rfl, by decide, zw_of (List.mem_of_getElem? (i := 924) (by decide +kernel)) rfl⟩
theorem fl_X11_81 : zFL RX11 81 10 3 := ⟨(RX11, TX11, 35), rfl, by decide, zw_of (List.mem_of_getElem? (i := 925) (by decide +kernel)) rfl⟩
theorem fl_X11_91 : zFL RX11 91 10 4 := ⟨(RX11, TX11, 35), rfl, by decide, zw_of (List.mem_of_getElem? (i := 926) (by decide +kernel)) rfl⟩
theorem fl_X11_88 : zFL RX11 88 10 5 := ⟨(RX11, TX11, 35), rfl, by decide, zw_of (List.mem_of_getElem? (i := 927) (by decide +kernel)) rfl⟩
theorem fl_X11_94 : zFL RX11 94 10 6 := ⟨(RX11, TX11, 35), rfl, by decide, zw_of (List.mem_of_getElem? (i := 928) (by decide +kernel)) rfl⟩
theorem fl_X11_97 : zFL RX11 97 10 7 := ⟨(RX11, TX11, 35), rfl, by decide, zw_of (List.mem_of_getElem? (i := 929) (by decide +kernel)) rfl⟩
theorem fl_X11_100 : zFL RX11 100 10 8 := ⟨(RX11, TX11, 35), rfl, by decide, zw_of (List.mem_of_getElem? (i := 930) (by decide +kernel)) rfl⟩
theorem fl_X11_13 : zFL RX11 13 10 9 := ⟨(RX11, TX11, 35), rfl, by decide, zw_of (List.mem_of_getElem? (i := 931) (by decide +kernel)) rfl⟩
theorem fl_X11_137 : zFL RX11 137 10 10 := ⟨(RX11, TX11, 35), rfl, by decide, zw_of (List.mem_of_getElem? (i := 932) (by decide +kernel)) rfl⟩
theorem fl_X11_140 : zFL RX11 140 10 11 := ⟨(RX11, TX11, 35), rfl, by decide, zw_of (List.mem_of_getElem? (i := 933) (by decide +kernel)) rfl⟩
theorem fl_X11_114 : zFL RX11 114 10 12 := ⟨(RX11, TX11, 35), rfl, by decide, zw_of (List.mem_of_getElem? (i := 934) (by decide +kernel)) rfl⟩
theorem fl_X11_121 : zFL RX11 121 10 13 := ⟨(RX11, TX11, 35), rfl, by decide, zw_of (List.mem_of_getElem? (i := 935) (by decide +kernel)) rfl⟩
theorem fl_X11_17 : zFL RX11 17 10 14 := ⟨(RX11, TX11, 35), rfl, by decide, zw_of (List.mem_of_getElem? (i := 936) (by decide +kernel)) rfl⟩
theorem fl_X11_20 : zFL RX11 20 10 15 := ⟨(RX11, TX11, 35), rfl, by decide, zw_of (List.mem_of_getElem? (i := 937) (by decide +kernel)) rfl⟩
theorem fl_X11_23 : zFL RX11 23 10 16 := ⟨(RX11, TX11, 35), rfl, by decide, zw_of (List.mem_of_getElem? (i := 938) (by decide +kernel)) rfl⟩
theorem fl_X11_26 : zFL RX11 26 10 17 := ⟨(RX11, TX11, 35), rfl, by decide, zw_of (List.mem_of_getElem? (i := 939) (by decide +kernel)) rfl⟩
theorem fl_X11_29 : zFL RX11 29 10 18 := ⟨(RX11, TX11, 35), rfl, by decide, zw_of (List.mem_of_getElem? (i := 940) (by decide +kernel)) rfl⟩
theorem fl_X11_32 : zFL RX11 32 10 19 := ⟨(RX11, TX11, 35), rfl, by decide, zw_of (List.mem_of_getElem? (i := 941) (by decide +kernel)) rfl⟩
theorem fl_X11_35 : zFL RX11 35 10 20 := ⟨(RX11, TX11, 35), rfl, by decide, zw_of (List.mem_of_getElem? (i := 942) (by decide +kernel)) rfl⟩
theorem fl_X11_38 : zFL RX11 38 10 21 := ⟨(RX11, TX11, 35), rfl, by decide, zw_of (List.mem_of_getElem? (i := 943) (by decide +kernel)) rfl⟩
theorem fl_X11_41 : zFL RX11 41 10 22 := ⟨(RX11, TX11, 35), rfl, by decide, zw_of (List.mem_of_getElem? (i := 944) (by decide +kernel)) rfl⟩
theorem fl_X11_45 : zFL RX11 45 10 23 := ⟨(RX11, TX11, 35), rfl, by decide, zw_of (List.mem_of_getElem? (i := 945) (by decide +kernel)) rfl⟩
theorem fl_X11_143 : zFL RX11 143 10 24 := ⟨(RX11, TX11, 35), rfl, by decide, zw_of (List.mem_of_getElem? (i := 946) (by decide +kernel)) rfl⟩
theorem fl_X11_48 : zFL RX11 48 10 25 := ⟨(RX11, TX11, 35), rfl, by decide, zw_of (List.mem_of_getElem? (i := 947) (by decide +kernel)) rfl⟩
theorem fl_X11_146 : zFL RX11 146 10 26 := ⟨(RX11, TX11, 35), rfl, by decide, zw_of (List.mem_of_getElem? (i := 948) (by decide +kernel)) rfl⟩
theorem fl_X11_51 : zFL RX11 51 10 27 := ⟨(RX11, TX11, 35), rfl, by decide, zw_of (List.mem_of_getElem? (i := 949) (by decide +kernel)) rfl⟩
theorem fl_X11_149 : zFL RX11 149 10 28 := ⟨(RX11, TX11, 35), rfl, by decide, zw_of (List.mem_of_getElem? (i := 950) (by decide +kernel)) rfl⟩
theorem fl_X11_54 : zFL RX11 54 10 29 := ⟨(RX11, TX11, 35), rfl, by decide, zw_of (List.mem_of_getElem? (i := 951) (by decide +kernel)) rfl⟩
theorem fl_X11_57 : zFL RX11 57 10 30 := ⟨(RX11, TX11, 35), rfl, by decide, zw_of (List.mem_of_getElem? (i := 952) (by decide +kernel)) rfl⟩
theorem fl_X11_60 : zFL RX11 60 10 31 := ⟨(RX11, TX11, 35), rfl, by decide, zw_of (List.mem_of_getElem? (i := 953) (by decide +kernel)) rfl⟩
theorem fl_X11_219 : zFL RX11 219 10 32 := ⟨(RX11, TX11, 35), rfl, by decide, zw_of (List.mem_of_getElem? (i := 954) (by decide +kernel)) rfl⟩
theorem fl_X11_63 : zFL RX11 63 10 33 := ⟨(RX11, TX11, 35), rfl, by decide, zw_of (List.mem_of_getElem? (i := 955) (by decide +kernel)) rfl⟩
theorem fl_X11_66 : zFL RX11 66 10 34 := ⟨(RX11, TX11, 35), rfl, by decide, zw_of (List.mem_of_getElem? (i := 956) (by decide +kernel)) rfl⟩
abbrev mi_X10_init : zMI := (yX10_init, cX10_init, 2, none)
theorem mo_X10_init : zMC mi_X10_init 0 := ⟨⟨zw_of (List.mem_of_getElem? (i := 1) (by decide +kernel)) rfl, zw_of (List.mem_of_getElem? (i := 20) (by decide +kernel)) rfl, ⟨by decide, by decide, by decide +kernel⟩, by decide +kernel, by decide⟩, zw_of (List.mem_of_getElem? (i := 19) (by decide +kernel)) rfl, rfl, rfl⟩
abbrev mi_X4_init : zMI := (yX4_init, cX4_init, 1, none)
theorem mo_X4_init : zMC mi_X4_init 0 := ⟨⟨zw_of (List.mem_of_getElem? (i := 2) (by decide +kernel)) rfl, zw_of (List.mem_of_getElem? (i := 28) (by decide +kernel)) rfl, ⟨by decide, by decide, by decide +kernel⟩, by decide +kernel, by decide⟩, zw_of (List.mem_of_getElem? (i := 27) (by decide +kernel)) rfl, rfl, rfl⟩
abbrev mi_X6_init : zMI := (yX6_init, cX6_init, 1, none)
theorem mo_X6_init : zMC mi_X6_init 0 := ⟨⟨zw_of (List.mem_of_getElem? (i := 3) (by decide +kernel)) rfl, zw_of (List.mem_of_getElem? (i := 67) (by decide +kernel)) rfl, ⟨by decide, by decide, by decide +kernel⟩, by decide +kernel, by decide⟩, zw_of (List.mem_of_getElem? (i := 66) (by decide +kernel)) rfl, rfl, rfl⟩
abbrev mi_X9_init : zMI := (yX9_init, cX9_init, 2, none)
theorem mo_X9_init : zMC mi_X9_init 1 := ⟨⟨zw_of (List.mem_of_getElem? (i := 4) (by decide +kernel)) rfl, zw_of (List.mem_of_getElem? (i := 100) (by decide +kernel)) rfl, ⟨by decide, by decide, by decide +kernel⟩, by decide +kernel, by decide⟩, zw_of (List.mem_of_getElem? (i := 99) (by decide +kernel)) rfl, rfl, rfl⟩
abbrev mi_X3_init : zMI := (yX3_init, cX3_init, 1, none)
theorem mo_X3_init : zMC mi_X3_init 0 := ⟨⟨zw_of (List.mem_of_getElem? (i := 5) (by decide +kernel)) rfl, zw_of (List.mem_of_getElem? (i := 106) (by decide +kernel)) rfl, ⟨by decide, by decide, by decide +kernel⟩, by decide +kernel, by decide⟩, zw_of (List.mem_of_getElem? (i := 105) (by decide +kernel)) rfl, rfl, rfl⟩
abbrev mi_X1_init : zMI := (yX1_init, cX1_init, 1, none)
theorem mo_X1_init : zMC mi_X1_init 0 := ⟨⟨zw_of (List.mem_of_getElem? (i := 6) (by decide +kernel)) rfl, zw_of (List.mem_of_getElem? (i := 128) (by decide +kernel)) rfl, ⟨by decide, by decide, by decide +kernel⟩, by decide +kernel, by decide⟩, zw_of (List.mem_of_getElem? (i := 127) (by decide +kernel)) rfl, rfl, rfl⟩
abbrev mi_X1_clear : zMI := (yX1_clear, cX1_clear, 1, none)
theorem mo_X1_clear : zMV mi_X1_clear 0 := ⟨⟨zw_of (List.mem_of_getElem? (i := 6) (by decide +kernel)) rfl, zw_of (List.mem_of_getElem? (i := 133) (by decide +kernel)) rfl, ⟨by decide, by decide, by decide +kernel⟩, by decide +kernel, by decide⟩, zw_of (List.mem_of_getElem? (i := 131) (by decide +kernel)) rfl, zw_of (List.mem_of_getElem? (i := 132) (by decide +kernel)) rfl⟩
abbrev mi_X1_begin : zMI := (yX1_begin, cX1_begin, 3, none)
theorem mo_X1_begin : zMV mi_X1_begin 2 := ⟨⟨zw_of (List.mem_of_getElem? (i := 6) (by decide +kernel)) rfl, zw_of (List.mem_of_getElem? (i := 137) (by decide +kernel)) rfl, ⟨by decide, by decide, by decide +kernel⟩, by decide +kernel, by decide⟩, zw_of (List.mem_of_getElem? (i := 135) (by decide +kernel)) rfl, zw_of (List.mem_of_getElem? (i := 136) (by decide +kernel)) rfl⟩
abbrev mi_X8_clear : zMI := (yX8_clear, cX8_clear, 2, none)
theorem mo_X8_clear : zMS mi_X8_clear 1 := ⟨⟨zw_of (List.mem_of_getElem? (i := 7) (by decide +kernel)) rfl, zw_of (List.mem_of_getElem? (i := 140) (by decide +kernel)) rfl, ⟨by decide, by decide, by decide +kernel⟩, by decide +kernel, by decide⟩, zw_of (List.mem_of_getElem? (i := 139) (by decide +kernel)) rfl⟩
abbrev mi_X8_put : zMI := (yX8_put, cX8_put, 3, none)
theorem mo_X8_put : zMS mi_X8_put 3 := ⟨⟨zw_of (List.mem_of_getElem? (i := 7) (by decide +kernel)) rfl, zw_of (List.mem_of_getElem? (i := 143) (by decide +kernel)) rfl, ⟨by decide, by decide, by decide +kernel⟩, by decide +kernel, by decide⟩, zw_of (List.mem_of_getElem? (i := 142) (by decide +kernel)) rfl⟩
abbrev mi_X2_init : zMI := (yX2_init, cX2_init, 2, none)
theorem mo_X2_init : zMC mi_X2_init 1 := ⟨⟨zw_of (List.mem_of_getElem? (i := 8) (by decide +kernel)) rfl, zw_of (List.mem_of_getElem? (i := 155) (by decide +kernel)) rfl, ⟨by decide, by decide, by decide +kernel⟩, by decide +kernel, by decide⟩, zw_of (List.mem_of_getElem? (i := 154) (by decide +kernel)) rfl, rfl, rfl⟩
abbrev mi_X5_init : zMI := (yX5_init, cX5_init, 1, none)
theorem mo_X5_init : zMC mi_X5_init 0 := ⟨⟨zw_of (List.mem_of_getElem? (i := 9) (by decide +kernel)) rfl, zw_of (List.mem_of_getElem? (i := 196) (by decide +kernel)) rfl, ⟨by decide, by decide, by decide +kernel⟩, by decide +kernel, by decide⟩, zw_of (List.mem_of_getElem? (i := 195) (by decide +kernel)) rfl, rfl, rfl⟩
abbrev mi_X0_init : zMI := (yX0_init, cX0_init, 3, none)
theorem mo_X0_init : zMC mi_X0_init 2 := ⟨⟨zw_of (List.mem_of_getElem? (i := 10) (by decide +kernel)) rfl, zw_of (List.mem_of_getElem? (i := 231) (by decide +kernel)) rfl, ⟨by decide, by decide, by decide +kernel⟩, by decide +kernel, by decide⟩, zw_of (List.mem_of_getElem? (i := 230) (by decide +kernel)) rfl, rfl, rfl⟩
abbrev mi_X7_init : zMI := (yX7_init, cX7_init, 3, none)
theorem mo_X7_init : zMC mi_X7_init 2 := ⟨⟨zw_of (List.mem_of_getElem? (i := 11) (by decide +kernel)) rfl, zw_of (List.mem_of_getElem? (i := 251) (by decide +kernel)) rfl, ⟨by decide, by decide, by decide +kernel⟩, by decide +kernel, by decide⟩, zw_of (List.mem_of_getElem? (i := 250) (by decide +kernel)) rfl, rfl, rfl⟩
abbrev mi_X10_feed : zMI := (yX10_feed, cX10_feed, 2, some FieldType.int)
theorem mo_X10_feed : zMV mi_X10_feed 1 := ⟨⟨zw_of (List.mem_of_getElem? (i := 1) (by decide +kernel)) rfl, zw_of (List.mem_of_getElem? (i := 314) (by decide +kernel)) rfl, ⟨by decide, by decide, by decide +kernel⟩, by decide +kernel, by decide⟩, zw_of (List.mem_of_getElem? (i := 312) (by decide +kernel)) rfl, zw_of (List.mem_of_getElem? (i := 313) (by decide +kernel)) rfl⟩
abbrev mi_X6_append : zMI := (yX6_append, cX6_append, 2, some FieldType.int)
theorem mo_X6_append : zMV mi_X6_append 1 := ⟨⟨zw_of (List.mem_of_getElem? (i := 3) (by decide +kernel)) rfl, zw_of (List.mem_of_getElem? (i := 320) (by decide +kernel)) rfl, ⟨by decide, by decide, by decide +kernel⟩, by decide +kernel, by decide⟩, zw_of (List.mem_of_getElem? (i := 318) (by decide +kernel)) rfl, zw_of (List.mem_of_getElem? (i := 319) (by decide +kernel)) rfl⟩
abbrev mi_X10_meadow : zMI := (yX10_meadow, cX10_meadow, 3, some FieldType.int)
theorem mo_X10_meadow : zMV mi_X10_meadow 0 := ⟨⟨zw_of (List.mem_of_getElem? (i := 1) (by decide +kernel)) rfl, zw_of (List.mem_of_getElem? (i := 325) (by decide +kernel)) rfl, ⟨by decide, by decide, by decide +kernel⟩, by decide +kernel, by decide⟩, zw_of (List.mem_of_getElem? (i := 323) (by decide +kernel)) rfl, zw_of (List.mem_of_getElem? (i := 324) (by decide +kernel)) rfl⟩
abbrev mi_X6_readAll : zMI := (yX6_readAll, cX6_readAll, 2, some FieldType.int)
theorem mo_X6_readAll : zMV mi_X6_readAll 0 := ⟨⟨zw_of (List.mem_of_getElem? (i := 3) (by decide +kernel)) rfl, zw_of (List.mem_of_getElem? (i := 329) (by decide +kernel)) rfl, ⟨by decide, by decide, by decide +kernel⟩, by decide +kernel, by decide⟩, zw_of (List.mem_of_getElem? (i := 327) (by decide +kernel)) rfl, zw_of (List.mem_of_getElem? (i := 328) (by decide +kernel)) rfl⟩
abbrev mi_X4_clear : zMI := (yX4_clear, cX4_clear, 1, none)
theorem mo_X4_clear : zMV mi_X4_clear 0 := ⟨⟨zw_of (List.mem_of_getElem? (i := 2) (by decide +kernel)) rfl, zw_of (List.mem_of_getElem? (i := 333) (by decide +kernel)) rfl, ⟨by decide, by decide, by decide +kernel⟩, by decide +kernel, by decide⟩, zw_of (List.mem_of_getElem? (i := 331) (by decide +kernel)) rfl, zw_of (List.mem_of_getElem? (i := 332) (by decide +kernel)) rfl⟩
abbrev mi_X6_skipBlanks : zMI := (yX6_skipBlanks, cX6_skipBlanks, 1, none)
theorem mo_X6_skipBlanks : zMV mi_X6_skipBlanks 0 := ⟨⟨zw_of (List.mem_of_getElem? (i := 3) (by decide +kernel)) rfl, zw_of (List.mem_of_getElem? (i := 338) (by decide +kernel)) rfl, ⟨by decide, by decide, by decide +kernel⟩, by decide +kernel, by decide⟩, zw_of (List.mem_of_getElem? (i := 337) (by decide +kernel)) rfl, zw_sel (List.mem_of_getElem? (i := 0) (by decide +kernel)) rfl⟩
abbrev mi_X6_letter : zMI := (yX6_letter, cX6_letter, 1, some FieldType.int)
theorem mo_X6_letter : zMV mi_X6_letter 0 := ⟨⟨zw_of (List.mem_of_getElem? (i := 3) (by decide +kernel)) rfl, zw_of (List.mem_of_getElem? (i := 342) (by decide +kernel)) rfl, ⟨by decide, by decide, by decide +kernel⟩, by decide +kernel, by decide⟩, zw_of (List.mem_of_getElem? (i := 341) (by decide +kernel)) rfl, zw_sel (List.mem_of_getElem? (i := 1) (by decide +kernel)) rfl⟩
abbrev mi_X8_at : zMI := (yX8_at, cX8_at, 2, some FieldType.int)
theorem mo_X8_at : zMS mi_X8_at 2 := ⟨⟨zw_of (List.mem_of_getElem? (i := 7) (by decide +kernel)) rfl, zw_of (List.mem_of_getElem? (i := 345) (by decide +kernel)) rfl, ⟨by decide, by decide, by decide +kernel⟩, by decide +kernel, by decide⟩, zw_of (List.mem_of_getElem? (i := 344) (by decide +kernel)) rfl⟩
abbrev mi_X6_readPerson : zMI := (yX6_readPerson, cX6_readPerson, 3, none)
theorem mo_X6_readPerson : zMV mi_X6_readPerson 0 := ⟨⟨zw_of (List.mem_of_getElem? (i := 3) (by decide +kernel)) rfl, zw_of (List.mem_of_getElem? (i := 349) (by decide +kernel)) rfl, ⟨by decide, by decide, by decide +kernel⟩, by decide +kernel, by decide⟩, zw_of (List.mem_of_getElem? (i := 348) (by decide +kernel)) rfl, zw_sel (List.mem_of_getElem? (i := 2) (by decide +kernel)) rfl⟩
abbrev mi_X6_mark : zMI := (yX6_mark, cX6_mark, 3, none)
theorem mo_X6_mark : zMV mi_X6_mark 2 := ⟨⟨zw_of (List.mem_of_getElem? (i := 3) (by decide +kernel)) rfl, zw_of (List.mem_of_getElem? (i := 353) (by decide +kernel)) rfl, ⟨by decide, by decide, by decide +kernel⟩, by decide +kernel, by decide⟩, zw_of (List.mem_of_getElem? (i := 352) (by decide +kernel)) rfl, zw_sel (List.mem_of_getElem? (i := 3) (by decide +kernel)) rfl⟩
abbrev mi_X6_readNumber : zMI := (yX6_readNumber, cX6_readNumber, 4, some FieldType.int)
theorem mo_X6_readNumber : zMV mi_X6_readNumber 2 := ⟨⟨zw_of (List.mem_of_getElem? (i := 3) (by decide +kernel)) rfl, zw_of (List.mem_of_getElem? (i := 361) (by decide +kernel)) rfl, ⟨by decide, by decide, by decide +kernel⟩, by decide +kernel, by decide⟩, zw_of (List.mem_of_getElem? (i := 360) (by decide +kernel)) rfl, zw_sel (List.mem_of_getElem? (i := 4) (by decide +kernel)) rfl⟩
abbrev mi_X6_readEnd : zMI := (yX6_readEnd, cX6_readEnd, 1, none)
theorem mo_X6_readEnd : zMV mi_X6_readEnd 0 := ⟨⟨zw_of (List.mem_of_getElem? (i := 3) (by decide +kernel)) rfl, zw_of (List.mem_of_getElem? (i := 365) (by decide +kernel)) rfl, ⟨by decide, by decide, by decide +kernel⟩, by decide +kernel, by decide⟩, zw_of (List.mem_of_getElem? (i := 364) (by decide +kernel)) rfl, zw_sel (List.mem_of_getElem? (i := 5) (by decide +kernel)) rfl⟩
abbrev mi_X6_readPhrase : zMI := (yX6_readPhrase, cX6_readPhrase, 3, none)
theorem mo_X6_readPhrase : zMV mi_X6_readPhrase 0 := ⟨⟨zw_of (List.mem_of_getElem? (i := 3) (by decide +kernel)) rfl, zw_of (List.mem_of_getElem? (i := 369) (by decide +kernel)) rfl, ⟨by decide, by decide, by decide +kernel⟩, by decide +kernel, by decide⟩, zw_of (List.mem_of_getElem? (i := 368) (by decide +kernel)) rfl, zw_sel (List.mem_of_getElem? (i := 6) (by decide +kernel)) rfl⟩
abbrev mi_X4_addPhrase : zMI := (yX4_addPhrase, cX4_addPhrase, 1, none)
theorem mo_X4_addPhrase : zMV mi_X4_addPhrase 0 := ⟨⟨zw_of (List.mem_of_getElem? (i := 2) (by decide +kernel)) rfl, zw_of (List.mem_of_getElem? (i := 377) (by decide +kernel)) rfl, ⟨by decide, by decide, by decide +kernel⟩, by decide +kernel, by decide⟩, zw_of (List.mem_of_getElem? (i := 375) (by decide +kernel)) rfl, zw_of (List.mem_of_getElem? (i := 376) (by decide +kernel)) rfl⟩
abbrev mi_X4_part : zMI := (yX4_part, cX4_part, 3, some FieldType.int)
theorem mo_X4_part : zMV mi_X4_part 2 := ⟨⟨zw_of (List.mem_of_getElem? (i := 2) (by decide +kernel)) rfl, zw_of (List.mem_of_getElem? (i := 381) (by decide +kernel)) rfl, ⟨by decide, by decide, by decide +kernel⟩, by decide +kernel, by decide⟩, zw_of (List.mem_of_getElem? (i := 379) (by decide +kernel)) rfl, zw_of (List.mem_of_getElem? (i := 380) (by decide +kernel)) rfl⟩
abbrev mi_X4_deedBit : zMI := (yX4_deedBit, cX4_deedBit, 1, some FieldType.int)
theorem mo_X4_deedBit : zMS mi_X4_deedBit 1 := ⟨⟨zw_of (List.mem_of_getElem? (i := 2) (by decide +kernel)) rfl, zw_of (List.mem_of_getElem? (i := 385) (by decide +kernel)) rfl, ⟨by decide, by decide, by decide +kernel⟩, by decide +kernel, by decide⟩, zw_of (List.mem_of_getElem? (i := 384) (by decide +kernel)) rfl⟩
abbrev mi_X6_readDeed : zMI := (yX6_readDeed, cX6_readDeed, 3, none)
theorem mo_X6_readDeed : zMV mi_X6_readDeed 0 := ⟨⟨zw_of (List.mem_of_getElem? (i := 3) (by decide +kernel)) rfl, zw_of (List.mem_of_getElem? (i := 390) (by decide +kernel)) rfl, ⟨by decide, by decide, by decide +kernel⟩, by decide +kernel, by decide⟩, zw_of (List.mem_of_getElem? (i := 389) (by decide +kernel)) rfl, zw_sel (List.mem_of_getElem? (i := 7) (by decide +kernel)) rfl⟩
abbrev mi_X4_copyFrom : zMI := (yX4_copyFrom, cX4_copyFrom, 2, none)
theorem mo_X4_copyFrom : zMV mi_X4_copyFrom 1 := ⟨⟨zw_of (List.mem_of_getElem? (i := 2) (by decide +kernel)) rfl, zw_of (List.mem_of_getElem? (i := 394) (by decide +kernel)) rfl, ⟨by decide, by decide, by decide +kernel⟩, by decide +kernel, by decide⟩, zw_of (List.mem_of_getElem? (i := 392) (by decide +kernel)) rfl, zw_of (List.mem_of_getElem? (i := 393) (by decide +kernel)) rfl⟩
abbrev mi_X8_copy : zMI := (yX8_copy, cX8_copy, 2, none)
theorem mo_X8_copy : zMS mi_X8_copy 2 := ⟨⟨zw_of (List.mem_of_getElem? (i := 7) (by decide +kernel)) rfl, zw_of (List.mem_of_getElem? (i := 397) (by decide +kernel)) rfl, ⟨by decide, by decide, by decide +kernel⟩, by decide +kernel, by decide⟩, zw_of (List.mem_of_getElem? (i := 396) (by decide +kernel)) rfl⟩
abbrev mi_J_min : zMI := (yJ_min, prog_15_method_69_code, 2, some FieldType.int)
theorem mo_J_min : zMS mi_J_min 2 := ⟨⟨zw_of (List.mem_of_getElem? (i := 13) (by decide +kernel)) rfl, zw_of (List.mem_of_getElem? (i := 400) (by decide +kernel)) rfl, ⟨by decide, by decide, by decide +kernel⟩, by decide +kernel, by decide⟩, zw_of (List.mem_of_getElem? (i := 399) (by decide +kernel)) rfl⟩
abbrev mi_X9_beginAnew : zMI := (yX9_beginAnew, cX9_beginAnew, 1, none)
theorem mo_X9_beginAnew : zMV mi_X9_beginAnew 0 := ⟨⟨zw_of (List.mem_of_getElem? (i := 4) (by decide +kernel)) rfl, zw_of (List.mem_of_getElem? (i := 407) (by decide +kernel)) rfl, ⟨by decide, by decide, by decide +kernel⟩, by decide +kernel, by decide⟩, zw_of (List.mem_of_getElem? (i := 405) (by decide +kernel)) rfl, zw_of (List.mem_of_getElem? (i := 406) (by decide +kernel)) rfl⟩
abbrev mi_X2_begin : zMI := (yX2_begin, cX2_begin, 2, none)
theorem mo_X2_begin : zMV mi_X2_begin 0 := ⟨⟨zw_of (List.mem_of_getElem? (i := 8) (by decide +kernel)) rfl, zw_of (List.mem_of_getElem? (i := 411) (by decide +kernel)) rfl, ⟨by decide, by decide, by decide +kernel⟩, by decide +kernel, by decide⟩, zw_of (List.mem_of_getElem? (i := 409) (by decide +kernel)) rfl, zw_of (List.mem_of_getElem? (i := 410) (by decide +kernel)) rfl⟩
abbrev mi_X4_trait : zMI := (yX4_trait, cX4_trait, 3, some FieldType.int)
theorem mo_X4_trait : zMV mi_X4_trait 2 := ⟨⟨zw_of (List.mem_of_getElem? (i := 2) (by decide +kernel)) rfl, zw_of (List.mem_of_getElem? (i := 416) (by decide +kernel)) rfl, ⟨by decide, by decide, by decide +kernel⟩, by decide +kernel, by decide⟩, zw_of (List.mem_of_getElem? (i := 414) (by decide +kernel)) rfl, zw_of (List.mem_of_getElem? (i := 415) (by decide +kernel)) rfl⟩
abbrev mi_X3_clear : zMI := (yX3_clear, cX3_clear, 1, none)
theorem mo_X3_clear : zMV mi_X3_clear 0 := ⟨⟨zw_of (List.mem_of_getElem? (i := 5) (by decide +kernel)) rfl, zw_of (List.mem_of_getElem? (i := 420) (by decide +kernel)) rfl, ⟨by decide, by decide, by decide +kernel⟩, by decide +kernel, by decide⟩, zw_of (List.mem_of_getElem? (i := 418) (by decide +kernel)) rfl, zw_of (List.mem_of_getElem? (i := 419) (by decide +kernel)) rfl⟩
abbrev mi_X5_clearAll : zMI := (yX5_clearAll, cX5_clearAll, 2, some FieldType.int)
theorem mo_X5_clearAll : zMV mi_X5_clearAll 0 := ⟨⟨zw_of (List.mem_of_getElem? (i := 9) (by decide +kernel)) rfl, zw_of (List.mem_of_getElem? (i := 426) (by decide +kernel)) rfl, ⟨by decide, by decide, by decide +kernel⟩, by decide +kernel, by decide⟩, zw_of (List.mem_of_getElem? (i := 424) (by decide +kernel)) rfl, zw_of (List.mem_of_getElem? (i := 425) (by decide +kernel)) rfl⟩
abbrev mi_X10_fault : zMI := (yX10_fault, cX10_fault, 1, some FieldType.int)
theorem mo_X10_fault : zMV mi_X10_fault 0 := ⟨⟨zw_of (List.mem_of_getElem? (i := 1) (by decide +kernel)) rfl, zw_of (List.mem_of_getElem? (i := 430) (by decide +kernel)) rfl, ⟨by decide, by decide, by decide +kernel⟩, by decide +kernel, by decide⟩, zw_of (List.mem_of_getElem? (i := 428) (by decide +kernel)) rfl, zw_of (List.mem_of_getElem? (i := 429) (by decide +kernel)) rfl⟩
abbrev mi_X10_told : zMI := (yX10_told, cX10_told, 3, some FieldType.int)
theorem mo_X10_told : zMV mi_X10_told 1 := ⟨⟨zw_of (List.mem_of_getElem? (i := 1) (by decide +kernel)) rfl, zw_of (List.mem_of_getElem? (i := 434) (by decide +kernel)) rfl, ⟨by decide, by decide, by decide +kernel⟩, by decide +kernel, by decide⟩, zw_of (List.mem_of_getElem? (i := 432) (by decide +kernel)) rfl, zw_of (List.mem_of_getElem? (i := 433) (by decide +kernel)) rfl⟩
abbrev mi_X1_person : zMI := (yX1_person, cX1_person, 2, some FieldType.int)
theorem mo_X1_person : zMV mi_X1_person 1 := ⟨⟨zw_of (List.mem_of_getElem? (i := 6) (by decide +kernel)) rfl, zw_of (List.mem_of_getElem? (i := 438) (by decide +kernel)) rfl, ⟨by decide, by decide, by decide +kernel⟩, by decide +kernel, by decide⟩, zw_of (List.mem_of_getElem? (i := 436) (by decide +kernel)) rfl, zw_of (List.mem_of_getElem? (i := 437) (by decide +kernel)) rfl⟩
abbrev mi_X1_cell : zMI := (yX1_cell, cX1_cell, 2, some FieldType.int)
theorem mo_X1_cell : zMV mi_X1_cell 1 := ⟨⟨zw_of (List.mem_of_getElem? (i := 6) (by decide +kernel)) rfl, zw_of (List.mem_of_getElem? (i := 443) (by decide +kernel)) rfl, ⟨by decide, by decide, by decide +kernel⟩, by decide +kernel, by decide⟩, zw_of (List.mem_of_getElem? (i := 441) (by decide +kernel)) rfl, zw_of (List.mem_of_getElem? (i := 442) (by decide +kernel)) rfl⟩
abbrev mi_X1_goesOn : zMI := (yX1_goesOn, cX1_goesOn, 1, some FieldType.boolean)
theorem mo_X1_goesOn : zMV mi_X1_goesOn 0 := ⟨⟨zw_of (List.mem_of_getElem? (i := 6) (by decide +kernel)) rfl, zw_of (List.mem_of_getElem? (i := 447) (by decide +kernel)) rfl, ⟨by decide, by decide, by decide +kernel⟩, by decide +kernel, by decide⟩, zw_of (List.mem_of_getElem? (i := 445) (by decide +kernel)) rfl, zw_of (List.mem_of_getElem? (i := 446) (by decide +kernel)) rfl⟩
abbrev mi_X1_exists : zMI := (yX1_exists, cX1_exists, 1, some FieldType.boolean)
theorem mo_X1_exists : zMV mi_X1_exists 0 := ⟨⟨zw_of (List.mem_of_getElem? (i := 6) (by decide +kernel)) rfl, zw_of (List.mem_of_getElem? (i := 451) (by decide +kernel)) rfl, ⟨by decide, by decide, by decide +kernel⟩, by decide +kernel, by decide⟩, zw_of (List.mem_of_getElem? (i := 449) (by decide +kernel)) rfl, zw_of (List.mem_of_getElem? (i := 450) (by decide +kernel)) rfl⟩
abbrev mi_X1_side : zMI := (yX1_side, cX1_side, 1, some FieldType.int)
theorem mo_X1_side : zMV mi_X1_side 0 := ⟨⟨zw_of (List.mem_of_getElem? (i := 6) (by decide +kernel)) rfl, zw_of (List.mem_of_getElem? (i := 456) (by decide +kernel)) rfl, ⟨by decide, by decide, by decide +kernel⟩, by decide +kernel, by decide⟩, zw_of (List.mem_of_getElem? (i := 454) (by decide +kernel)) rfl, zw_of (List.mem_of_getElem? (i := 455) (by decide +kernel)) rfl⟩
abbrev mi_X10_duellist : zMI := (yX10_duellist, cX10_duellist, 3, some FieldType.int)
theorem mo_X10_duellist : zMV mi_X10_duellist 2 := ⟨⟨zw_of (List.mem_of_getElem? (i := 1) (by decide +kernel)) rfl, zw_of (List.mem_of_getElem? (i := 460) (by decide +kernel)) rfl, ⟨by decide, by decide, by decide +kernel⟩, by decide +kernel, by decide⟩, zw_of (List.mem_of_getElem? (i := 458) (by decide +kernel)) rfl, zw_of (List.mem_of_getElem? (i := 459) (by decide +kernel)) rfl⟩
abbrev mi_X4_hasPerson : zMI := (yX4_hasPerson, cX4_hasPerson, 2, some FieldType.boolean)
theorem mo_X4_hasPerson : zMV mi_X4_hasPerson 1 := ⟨⟨zw_of (List.mem_of_getElem? (i := 2) (by decide +kernel)) rfl, zw_of (List.mem_of_getElem? (i := 464) (by decide +kernel)) rfl, ⟨by decide, by decide, by decide +kernel⟩, by decide +kernel, by decide⟩, zw_of (List.mem_of_getElem? (i := 462) (by decide +kernel)) rfl, zw_of (List.mem_of_getElem? (i := 463) (by decide +kernel)) rfl⟩
abbrev mi_X2_vanityOf : zMI := (yX2_vanityOf, cX2_vanityOf, 3, some FieldType.int)
theorem mo_X2_vanityOf : zMV mi_X2_vanityOf 2 := ⟨⟨zw_of (List.mem_of_getElem? (i := 8) (by decide +kernel)) rfl, zw_of (List.mem_of_getElem? (i := 470) (by decide +kernel)) rfl, ⟨by decide, by decide, by decide +kernel⟩, by decide +kernel, by decide⟩, zw_of (List.mem_of_getElem? (i := 468) (by decide +kernel)) rfl, zw_of (List.mem_of_getElem? (i := 469) (by decide +kernel)) rfl⟩
abbrev mi_X2_deedsOf : zMI := (yX2_deedsOf, cX2_deedsOf, 2, some FieldType.int)
theorem mo_X2_deedsOf : zMV mi_X2_deedsOf 1 := ⟨⟨zw_of (List.mem_of_getElem? (i := 8) (by decide +kernel)) rfl, zw_of (List.mem_of_getElem? (i := 475) (by decide +kernel)) rfl, ⟨by decide, by decide, by decide +kernel⟩, by decide +kernel, by decide⟩, zw_of (List.mem_of_getElem? (i := 473) (by decide +kernel)) rfl, zw_of (List.mem_of_getElem? (i := 474) (by decide +kernel)) rfl⟩
abbrev mi_X3_pointsOf : zMI := (yX3_pointsOf, cX3_pointsOf, 2, some FieldType.int)
theorem mo_X3_pointsOf : zMV mi_X3_pointsOf 1 := ⟨⟨zw_of (List.mem_of_getElem? (i := 5) (by decide +kernel)) rfl, zw_of (List.mem_of_getElem? (i := 479) (by decide +kernel)) rfl, ⟨by decide, by decide, by decide +kernel⟩, by decide +kernel, by decide⟩, zw_of (List.mem_of_getElem? (i := 477) (by decide +kernel)) rfl, zw_of (List.mem_of_getElem? (i := 478) (by decide +kernel)) rfl⟩
abbrev mi_X10_inDuel : zMI := (yX10_inDuel, cX10_inDuel, 4, some FieldType.int)
theorem mo_X10_inDuel : zMV mi_X10_inDuel 2 := ⟨⟨zw_of (List.mem_of_getElem? (i := 1) (by decide +kernel)) rfl, zw_of (List.mem_of_getElem? (i := 484) (by decide +kernel)) rfl, ⟨by decide, by decide, by decide +kernel⟩, by decide +kernel, by decide⟩, zw_of (List.mem_of_getElem? (i := 483) (by decide +kernel)) rfl, zw_sel (List.mem_of_getElem? (i := 8) (by decide +kernel)) rfl⟩
abbrev mi_X1_sideOf : zMI := (yX1_sideOf, cX1_sideOf, 2, some FieldType.int)
theorem mo_X1_sideOf : zMV mi_X1_sideOf 1 := ⟨⟨zw_of (List.mem_of_getElem? (i := 6) (by decide +kernel)) rfl, zw_of (List.mem_of_getElem? (i := 488) (by decide +kernel)) rfl, ⟨by decide, by decide, by decide +kernel⟩, by decide +kernel, by decide⟩, zw_of (List.mem_of_getElem? (i := 486) (by decide +kernel)) rfl, zw_of (List.mem_of_getElem? (i := 487) (by decide +kernel)) rfl⟩
abbrev mi_X1_toldTo : zMI := (yX1_toldTo, cX1_toldTo, 3, some FieldType.int)
theorem mo_X1_toldTo : zMV mi_X1_toldTo 2 := ⟨⟨zw_of (List.mem_of_getElem? (i := 6) (by decide +kernel)) rfl, zw_of (List.mem_of_getElem? (i := 493) (by decide +kernel)) rfl, ⟨by decide, by decide, by decide +kernel⟩, by decide +kernel, by decide⟩, zw_of (List.mem_of_getElem? (i := 491) (by decide +kernel)) rfl, zw_of (List.mem_of_getElem? (i := 492) (by decide +kernel)) rfl⟩
abbrev mi_X10_compliment : zMI := (yX10_compliment, cX10_compliment, 3, some FieldType.int)
theorem mo_X10_compliment : zMV mi_X10_compliment 2 := ⟨⟨zw_of (List.mem_of_getElem? (i := 1) (by decide +kernel)) rfl, zw_of (List.mem_of_getElem? (i := 497) (by decide +kernel)) rfl, ⟨by decide, by decide, by decide +kernel⟩, by decide +kernel, by decide⟩, zw_of (List.mem_of_getElem? (i := 495) (by decide +kernel)) rfl, zw_of (List.mem_of_getElem? (i := 496) (by decide +kernel)) rfl⟩
abbrev mi_X4_hasPhrase : zMI := (yX4_hasPhrase, cX4_hasPhrase, 2, some FieldType.boolean)
theorem mo_X4_hasPhrase : zMV mi_X4_hasPhrase 1 := ⟨⟨zw_of (List.mem_of_getElem? (i := 2) (by decide +kernel)) rfl, zw_of (List.mem_of_getElem? (i := 501) (by decide +kernel)) rfl, ⟨by decide, by decide, by decide +kernel⟩, by decide +kernel, by decide⟩, zw_of (List.mem_of_getElem? (i := 499) (by decide +kernel)) rfl, zw_of (List.mem_of_getElem? (i := 500) (by decide +kernel)) rfl⟩
abbrev mi_X10_truth : zMI := (yX10_truth, cX10_truth, 3, some FieldType.int)
theorem mo_X10_truth : zMV mi_X10_truth 2 := ⟨⟨zw_of (List.mem_of_getElem? (i := 1) (by decide +kernel)) rfl, zw_of (List.mem_of_getElem? (i := 506) (by decide +kernel)) rfl, ⟨by decide, by decide, by decide +kernel⟩, by decide +kernel, by decide⟩, zw_of (List.mem_of_getElem? (i := 504) (by decide +kernel)) rfl, zw_of (List.mem_of_getElem? (i := 505) (by decide +kernel)) rfl⟩
abbrev mi_X2_truthOf : zMI := (yX2_truthOf, cX2_truthOf, 5, some FieldType.int)
theorem mo_X2_truthOf : zMV mi_X2_truthOf 2 := ⟨⟨zw_of (List.mem_of_getElem? (i := 8) (by decide +kernel)) rfl, zw_of (List.mem_of_getElem? (i := 510) (by decide +kernel)) rfl, ⟨by decide, by decide, by decide +kernel⟩, by decide +kernel, by decide⟩, zw_of (List.mem_of_getElem? (i := 508) (by decide +kernel)) rfl, zw_of (List.mem_of_getElem? (i := 509) (by decide +kernel)) rfl⟩
abbrev mi_X10_effect : zMI := (yX10_effect, cX10_effect, 3, some FieldType.int)
theorem mo_X10_effect : zMV mi_X10_effect 2 := ⟨⟨zw_of (List.mem_of_getElem? (i := 1) (by decide +kernel)) rfl, zw_of (List.mem_of_getElem? (i := 514) (by decide +kernel)) rfl, ⟨by decide, by decide, by decide +kernel⟩, by decide +kernel, by decide⟩, zw_of (List.mem_of_getElem? (i := 512) (by decide +kernel)) rfl, zw_of (List.mem_of_getElem? (i := 513) (by decide +kernel)) rfl⟩
abbrev mi_X9_effectNow : zMI := (yX9_effectNow, cX9_effectNow, 5, some FieldType.int)
theorem mo_X9_effectNow : zMV mi_X9_effectNow 2 := ⟨⟨zw_of (List.mem_of_getElem? (i := 4) (by decide +kernel)) rfl, zw_of (List.mem_of_getElem? (i := 518) (by decide +kernel)) rfl, ⟨by decide, by decide, by decide +kernel⟩, by decide +kernel, by decide⟩, zw_of (List.mem_of_getElem? (i := 516) (by decide +kernel)) rfl, zw_of (List.mem_of_getElem? (i := 517) (by decide +kernel)) rfl⟩
abbrev mi_X2_effectOn : zMI := (yX2_effectOn, cX2_effectOn, 4, some FieldType.int)
theorem mo_X2_effectOn : zMV mi_X2_effectOn 3 := ⟨⟨zw_of (List.mem_of_getElem? (i := 8) (by decide +kernel)) rfl, zw_of (List.mem_of_getElem? (i := 525) (by decide +kernel)) rfl, ⟨by decide, by decide, by decide +kernel⟩, by decide +kernel, by decide⟩, zw_of (List.mem_of_getElem? (i := 523) (by decide +kernel)) rfl, zw_of (List.mem_of_getElem? (i := 524) (by decide +kernel)) rfl⟩
abbrev mi_X2_effectBy : zMI := (yX2_effectBy, cX2_effectBy, 5, some FieldType.int)
theorem mo_X2_effectBy : zMV mi_X2_effectBy 4 := ⟨⟨zw_of (List.mem_of_getElem? (i := 8) (by decide +kernel)) rfl, zw_of (List.mem_of_getElem? (i := 531) (by decide +kernel)) rfl, ⟨by decide, by decide, by decide +kernel⟩, by decide +kernel, by decide⟩, zw_of (List.mem_of_getElem? (i := 529) (by decide +kernel)) rfl, zw_of (List.mem_of_getElem? (i := 530) (by decide +kernel)) rfl⟩
abbrev mi_X2_effectOf : zMI := (yX2_effectOf, cX2_effectOf, 3, some FieldType.int)
theorem mo_X2_effectOf : zMS mi_X2_effectOf 3 := ⟨⟨zw_of (List.mem_of_getElem? (i := 8) (by decide +kernel)) rfl, zw_of (List.mem_of_getElem? (i := 535) (by decide +kernel)) rfl, ⟨by decide, by decide, by decide +kernel⟩, by decide +kernel, by decide⟩, zw_of (List.mem_of_getElem? (i := 534) (by decide +kernel)) rfl⟩
abbrev mi_X10_duel : zMI := (yX10_duel, cX10_duel, 3, some FieldType.int)
theorem mo_X10_duel : zMV mi_X10_duel 2 := ⟨⟨zw_of (List.mem_of_getElem? (i := 1) (by decide +kernel)) rfl, zw_of (List.mem_of_getElem? (i := 539) (by decide +kernel)) rfl, ⟨by decide, by decide, by decide +kernel⟩, by decide +kernel, by decide⟩, zw_of (List.mem_of_getElem? (i := 537) (by decide +kernel)) rfl, zw_of (List.mem_of_getElem? (i := 538) (by decide +kernel)) rfl⟩
abbrev mi_X10_areTwo : zMI := (yX10_areTwo, cX10_areTwo, 3, some FieldType.boolean)
theorem mo_X10_areTwo : zMV mi_X10_areTwo 2 := ⟨⟨zw_of (List.mem_of_getElem? (i := 1) (by decide +kernel)) rfl, zw_of (List.mem_of_getElem? (i := 543) (by decide +kernel)) rfl, ⟨by decide, by decide, by decide +kernel⟩, by decide +kernel, by decide⟩, zw_of (List.mem_of_getElem? (i := 542) (by decide +kernel)) rfl, zw_sel (List.mem_of_getElem? (i := 9) (by decide +kernel)) rfl⟩
abbrev mi_X10_say : zMI := (yX10_say, cX10_say, 2, some FieldType.int)
theorem mo_X10_say : zMV mi_X10_say 1 := ⟨⟨zw_of (List.mem_of_getElem? (i := 1) (by decide +kernel)) rfl, zw_of (List.mem_of_getElem? (i := 548) (by decide +kernel)) rfl, ⟨by decide, by decide, by decide +kernel⟩, by decide +kernel, by decide⟩, zw_of (List.mem_of_getElem? (i := 546) (by decide +kernel)) rfl, zw_of (List.mem_of_getElem? (i := 547) (by decide +kernel)) rfl⟩
abbrev mi_X1_allows : zMI := (yX1_allows, cX1_allows, 2, some FieldType.boolean)
theorem mo_X1_allows : zMV mi_X1_allows 1 := ⟨⟨zw_of (List.mem_of_getElem? (i := 6) (by decide +kernel)) rfl, zw_of (List.mem_of_getElem? (i := 552) (by decide +kernel)) rfl, ⟨by decide, by decide, by decide +kernel⟩, by decide +kernel, by decide⟩, zw_of (List.mem_of_getElem? (i := 550) (by decide +kernel)) rfl, zw_of (List.mem_of_getElem? (i := 551) (by decide +kernel)) rfl⟩
abbrev mi_X1_isUnsaid : zMI := (yX1_isUnsaid, cX1_isUnsaid, 2, some FieldType.boolean)
theorem mo_X1_isUnsaid : zMV mi_X1_isUnsaid 1 := ⟨⟨zw_of (List.mem_of_getElem? (i := 6) (by decide +kernel)) rfl, zw_of (List.mem_of_getElem? (i := 558) (by decide +kernel)) rfl, ⟨by decide, by decide, by decide +kernel⟩, by decide +kernel, by decide⟩, zw_of (List.mem_of_getElem? (i := 556) (by decide +kernel)) rfl, zw_of (List.mem_of_getElem? (i := 557) (by decide +kernel)) rfl⟩
abbrev mi_X9_playTurn : zMI := (yX9_playTurn, cX9_playTurn, 3, some FieldType.int)
theorem mo_X9_playTurn : zMV mi_X9_playTurn 1 := ⟨⟨zw_of (List.mem_of_getElem? (i := 4) (by decide +kernel)) rfl, zw_of (List.mem_of_getElem? (i := 563) (by decide +kernel)) rfl, ⟨by decide, by decide, by decide +kernel⟩, by decide +kernel, by decide⟩, zw_of (List.mem_of_getElem? (i := 561) (by decide +kernel)) rfl, zw_of (List.mem_of_getElem? (i := 562) (by decide +kernel)) rfl⟩
abbrev mi_X1_play : zMI := (yX1_play, cX1_play, 5, none)
theorem mo_X1_play : zMV mi_X1_play 2 := ⟨⟨zw_of (List.mem_of_getElem? (i := 6) (by decide +kernel)) rfl, zw_of (List.mem_of_getElem? (i := 567) (by decide +kernel)) rfl, ⟨by decide, by decide, by decide +kernel⟩, by decide +kernel, by decide⟩, zw_of (List.mem_of_getElem? (i := 565) (by decide +kernel)) rfl, zw_of (List.mem_of_getElem? (i := 566) (by decide +kernel)) rfl⟩
abbrev mi_X1_remember : zMI := (yX1_remember, cX1_remember, 2, none)
theorem mo_X1_remember : zMV mi_X1_remember 0 := ⟨⟨zw_of (List.mem_of_getElem? (i := 6) (by decide +kernel)) rfl, zw_of (List.mem_of_getElem? (i := 571) (by decide +kernel)) rfl, ⟨by decide, by decide, by decide +kernel⟩, by decide +kernel, by decide⟩, zw_of (List.mem_of_getElem? (i := 570) (by decide +kernel)) rfl, zw_sel (List.mem_of_getElem? (i := 10) (by decide +kernel)) rfl⟩
abbrev mi_J_max : zMI := (yJ_max, prog_15_method_65_code, 2, some FieldType.int)
theorem mo_J_max : zMS mi_J_max 2 := ⟨⟨zw_of (List.mem_of_getElem? (i := 13) (by decide +kernel)) rfl, zw_of (List.mem_of_getElem? (i := 576) (by decide +kernel)) rfl, ⟨by decide, by decide, by decide +kernel⟩, by decide +kernel, by decide⟩, zw_of (List.mem_of_getElem? (i := 575) (by decide +kernel)) rfl⟩
abbrev mi_X1_passOnce : zMI := (yX1_passOnce, cX1_passOnce, 1, none)
theorem mo_X1_passOnce : zMV mi_X1_passOnce 0 := ⟨⟨zw_of (List.mem_of_getElem? (i := 6) (by decide +kernel)) rfl, zw_of (List.mem_of_getElem? (i := 580) (by decide +kernel)) rfl, ⟨by decide, by decide, by decide +kernel⟩, by decide +kernel, by decide⟩, zw_of (List.mem_of_getElem? (i := 579) (by decide +kernel)) rfl, zw_sel (List.mem_of_getElem? (i := 11) (by decide +kernel)) rfl⟩
abbrev mi_X8_add : zMI := (yX8_add, cX8_add, 3, none)
theorem mo_X8_add : zMS mi_X8_add 3 := ⟨⟨zw_of (List.mem_of_getElem? (i := 7) (by decide +kernel)) rfl, zw_of (List.mem_of_getElem? (i := 583) (by decide +kernel)) rfl, ⟨by decide, by decide, by decide +kernel⟩, by decide +kernel, by decide⟩, zw_of (List.mem_of_getElem? (i := 582) (by decide +kernel)) rfl⟩
abbrev mi_X1_speak : zMI := (yX1_speak, cX1_speak, 9, none)
theorem mo_X1_speak : zMV mi_X1_speak 3 := ⟨⟨zw_of (List.mem_of_getElem? (i := 6) (by decide +kernel)) rfl, zw_of (List.mem_of_getElem? (i := 587) (by decide +kernel)) rfl, ⟨by decide, by decide, by decide +kernel⟩, by decide +kernel, by decide⟩, zw_of (List.mem_of_getElem? (i := 586) (by decide +kernel)) rfl, zw_sel (List.mem_of_getElem? (i := 12) (by decide +kernel)) rfl⟩
abbrev mi_X3_count : zMI := (yX3_count, cX3_count, 7, none)
theorem mo_X3_count : zMV mi_X3_count 3 := ⟨⟨zw_of (List.mem_of_getElem? (i := 5) (by decide +kernel)) rfl, zw_of (List.mem_of_getElem? (i := 598) (by decide +kernel)) rfl, ⟨by decide, by decide, by decide +kernel⟩, by decide +kernel, by decide⟩, zw_of (List.mem_of_getElem? (i := 596) (by decide +kernel)) rfl, zw_of (List.mem_of_getElem? (i := 597) (by decide +kernel)) rfl⟩
abbrev mi_X3_scoreOfFirst : zMI := (yX3_scoreOfFirst, cX3_scoreOfFirst, 1, some FieldType.int)
theorem mo_X3_scoreOfFirst : zMS mi_X3_scoreOfFirst 1 := ⟨⟨zw_of (List.mem_of_getElem? (i := 5) (by decide +kernel)) rfl, zw_of (List.mem_of_getElem? (i := 601) (by decide +kernel)) rfl, ⟨by decide, by decide, by decide +kernel⟩, by decide +kernel, by decide⟩, zw_of (List.mem_of_getElem? (i := 600) (by decide +kernel)) rfl⟩
abbrev mi_X3_pairOf : zMI := (yX3_pairOf, cX3_pairOf, 3, some FieldType.int)
theorem mo_X3_pairOf : zMS mi_X3_pairOf 2 := ⟨⟨zw_of (List.mem_of_getElem? (i := 5) (by decide +kernel)) rfl, zw_of (List.mem_of_getElem? (i := 604) (by decide +kernel)) rfl, ⟨by decide, by decide, by decide +kernel⟩, by decide +kernel, by decide⟩, zw_of (List.mem_of_getElem? (i := 603) (by decide +kernel)) rfl⟩
abbrev mi_X10_pass : zMI := (yX10_pass, cX10_pass, 1, some FieldType.int)
theorem mo_X10_pass : zMV mi_X10_pass 0 := ⟨⟨zw_of (List.mem_of_getElem? (i := 1) (by decide +kernel)) rfl, zw_of (List.mem_of_getElem? (i := 616) (by decide +kernel)) rfl, ⟨by decide, by decide, by decide +kernel⟩, by decide +kernel, by decide⟩, zw_of (List.mem_of_getElem? (i := 614) (by decide +kernel)) rfl, zw_of (List.mem_of_getElem? (i := 615) (by decide +kernel)) rfl⟩
abbrev mi_X10_sorr : zMI := (yX10_sorr, cX10_sorr, 2, some FieldType.int)
theorem mo_X10_sorr : zMV mi_X10_sorr 0 := ⟨⟨zw_of (List.mem_of_getElem? (i := 1) (by decide +kernel)) rfl, zw_of (List.mem_of_getElem? (i := 620) (by decide +kernel)) rfl, ⟨by decide, by decide, by decide +kernel⟩, by decide +kernel, by decide⟩, zw_of (List.mem_of_getElem? (i := 618) (by decide +kernel)) rfl, zw_of (List.mem_of_getElem? (i := 619) (by decide +kernel)) rfl⟩
abbrev mi_X10_undo : zMI := (yX10_undo, cX10_undo, 2, some FieldType.int)
theorem mo_X10_undo : zMV mi_X10_undo 1 := ⟨⟨zw_of (List.mem_of_getElem? (i := 1) (by decide +kernel)) rfl, zw_of (List.mem_of_getElem? (i := 624) (by decide +kernel)) rfl, ⟨by decide, by decide, by decide +kernel⟩, by decide +kernel, by decide⟩, zw_of (List.mem_of_getElem? (i := 622) (by decide +kernel)) rfl, zw_of (List.mem_of_getElem? (i := 623) (by decide +kernel)) rfl⟩
abbrev mi_X9_takeBack : zMI := (yX9_takeBack, cX9_takeBack, 3, none)
theorem mo_X9_takeBack : zMV mi_X9_takeBack 1 := ⟨⟨zw_of (List.mem_of_getElem? (i := 4) (by decide +kernel)) rfl, zw_of (List.mem_of_getElem? (i := 629) (by decide +kernel)) rfl, ⟨by decide, by decide, by decide +kernel⟩, by decide +kernel, by decide⟩, zw_of (List.mem_of_getElem? (i := 627) (by decide +kernel)) rfl, zw_of (List.mem_of_getElem? (i := 628) (by decide +kernel)) rfl⟩
abbrev mi_X3_uncount : zMI := (yX3_uncount, cX3_uncount, 5, none)
theorem mo_X3_uncount : zMV mi_X3_uncount 3 := ⟨⟨zw_of (List.mem_of_getElem? (i := 5) (by decide +kernel)) rfl, zw_of (List.mem_of_getElem? (i := 633) (by decide +kernel)) rfl, ⟨by decide, by decide, by decide +kernel⟩, by decide +kernel, by decide⟩, zw_of (List.mem_of_getElem? (i := 631) (by decide +kernel)) rfl, zw_of (List.mem_of_getElem? (i := 632) (by decide +kernel)) rfl⟩
abbrev mi_X1_takeBack : zMI := (yX1_takeBack, cX1_takeBack, 3, none)
theorem mo_X1_takeBack : zMV mi_X1_takeBack 1 := ⟨⟨zw_of (List.mem_of_getElem? (i := 6) (by decide +kernel)) rfl, zw_of (List.mem_of_getElem? (i := 637) (by decide +kernel)) rfl, ⟨by decide, by decide, by decide +kernel⟩, by decide +kernel, by decide⟩, zw_of (List.mem_of_getElem? (i := 635) (by decide +kernel)) rfl, zw_of (List.mem_of_getElem? (i := 636) (by decide +kernel)) rfl⟩
abbrev mi_X10_act : zMI := (yX10_act, cX10_act, 3, some FieldType.int)
theorem mo_X10_act : zMV mi_X10_act 2 := ⟨⟨zw_of (List.mem_of_getElem? (i := 1) (by decide +kernel)) rfl, zw_of (List.mem_of_getElem? (i := 641) (by decide +kernel)) rfl, ⟨by decide, by decide, by decide +kernel⟩, by decide +kernel, by decide⟩, zw_of (List.mem_of_getElem? (i := 639) (by decide +kernel)) rfl, zw_of (List.mem_of_getElem? (i := 640) (by decide +kernel)) rfl⟩
abbrev mi_X10_vanity : zMI := (yX10_vanity, cX10_vanity, 5, some FieldType.int)
theorem mo_X10_vanity : zMV mi_X10_vanity 3 := ⟨⟨zw_of (List.mem_of_getElem? (i := 1) (by decide +kernel)) rfl, zw_of (List.mem_of_getElem? (i := 646) (by decide +kernel)) rfl, ⟨by decide, by decide, by decide +kernel⟩, by decide +kernel, by decide⟩, zw_of (List.mem_of_getElem? (i := 644) (by decide +kernel)) rfl, zw_of (List.mem_of_getElem? (i := 645) (by decide +kernel)) rfl⟩
abbrev mi_X10_isTopic : zMI := (yX10_isTopic, cX10_isTopic, 1, some FieldType.boolean)
theorem mo_X10_isTopic : zMS mi_X10_isTopic 1 := ⟨⟨zw_of (List.mem_of_getElem? (i := 1) (by decide +kernel)) rfl, zw_of (List.mem_of_getElem? (i := 649) (by decide +kernel)) rfl, ⟨by decide, by decide, by decide +kernel⟩, by decide +kernel, by decide⟩, zw_of (List.mem_of_getElem? (i := 648) (by decide +kernel)) rfl⟩
abbrev mi_X10_drift : zMI := (yX10_drift, cX10_drift, 3, some FieldType.int)
theorem mo_X10_drift : zMV mi_X10_drift 1 := ⟨⟨zw_of (List.mem_of_getElem? (i := 1) (by decide +kernel)) rfl, zw_of (List.mem_of_getElem? (i := 653) (by decide +kernel)) rfl, ⟨by decide, by decide, by decide +kernel⟩, by decide +kernel, by decide⟩, zw_of (List.mem_of_getElem? (i := 651) (by decide +kernel)) rfl, zw_of (List.mem_of_getElem? (i := 652) (by decide +kernel)) rfl⟩
abbrev mi_X9_drawTurn : zMI := (yX9_drawTurn, cX9_drawTurn, 2, some FieldType.int)
theorem mo_X9_drawTurn : zMV mi_X9_drawTurn 0 := ⟨⟨zw_of (List.mem_of_getElem? (i := 4) (by decide +kernel)) rfl, zw_of (List.mem_of_getElem? (i := 657) (by decide +kernel)) rfl, ⟨by decide, by decide, by decide +kernel⟩, by decide +kernel, by decide⟩, zw_of (List.mem_of_getElem? (i := 655) (by decide +kernel)) rfl, zw_of (List.mem_of_getElem? (i := 656) (by decide +kernel)) rfl⟩
abbrev mi_X1_unsaidCount : zMI := (yX1_unsaidCount, cX1_unsaidCount, 4, some FieldType.int)
theorem mo_X1_unsaidCount : zMV mi_X1_unsaidCount 1 := ⟨⟨zw_of (List.mem_of_getElem? (i := 6) (by decide +kernel)) rfl, zw_of (List.mem_of_getElem? (i := 661) (by decide +kernel)) rfl, ⟨by decide, by decide, by decide +kernel⟩, by decide +kernel, by decide⟩, zw_of (List.mem_of_getElem? (i := 659) (by decide +kernel)) rfl, zw_of (List.mem_of_getElem? (i := 660) (by decide +kernel)) rfl⟩
abbrev mi_X9_draw : zMI := (yX9_draw, cX9_draw, 2, some FieldType.int)
theorem mo_X9_draw : zMV mi_X9_draw 1 := ⟨⟨zw_of (List.mem_of_getElem? (i := 4) (by decide +kernel)) rfl, zw_of (List.mem_of_getElem? (i := 665) (by decide +kernel)) rfl, ⟨by decide, by decide, by decide +kernel⟩, by decide +kernel, by decide⟩, zw_of (List.mem_of_getElem? (i := 664) (by decide +kernel)) rfl, zw_sel (List.mem_of_getElem? (i := 13) (by decide +kernel)) rfl⟩
abbrev mi_X1_unsaidAt : zMI := (yX1_unsaidAt, cX1_unsaidAt, 5, some FieldType.int)
theorem mo_X1_unsaidAt : zMV mi_X1_unsaidAt 2 := ⟨⟨zw_of (List.mem_of_getElem? (i := 6) (by decide +kernel)) rfl, zw_of (List.mem_of_getElem? (i := 673) (by decide +kernel)) rfl, ⟨by decide, by decide, by decide +kernel⟩, by decide +kernel, by decide⟩, zw_of (List.mem_of_getElem? (i := 671) (by decide +kernel)) rfl, zw_of (List.mem_of_getElem? (i := 672) (by decide +kernel)) rfl⟩
abbrev mi_X10_best : zMI := (yX10_best, cX10_best, 3, some FieldType.int)
theorem mo_X10_best : zMV mi_X10_best 1 := ⟨⟨zw_of (List.mem_of_getElem? (i := 1) (by decide +kernel)) rfl, zw_of (List.mem_of_getElem? (i := 677) (by decide +kernel)) rfl, ⟨by decide, by decide, by decide +kernel⟩, by decide +kernel, by decide⟩, zw_of (List.mem_of_getElem? (i := 675) (by decide +kernel)) rfl, zw_of (List.mem_of_getElem? (i := 676) (by decide +kernel)) rfl⟩
abbrev mi_X1_copyFrom : zMI := (yX1_copyFrom, cX1_copyFrom, 2, none)
theorem mo_X1_copyFrom : zMV mi_X1_copyFrom 1 := ⟨⟨zw_of (List.mem_of_getElem? (i := 6) (by decide +kernel)) rfl, zw_of (List.mem_of_getElem? (i := 682) (by decide +kernel)) rfl, ⟨by decide, by decide, by decide +kernel⟩, by decide +kernel, by decide⟩, zw_of (List.mem_of_getElem? (i := 680) (by decide +kernel)) rfl, zw_of (List.mem_of_getElem? (i := 681) (by decide +kernel)) rfl⟩
abbrev mi_X0_find : zMI := (yX0_find, cX0_find, 1, some FieldType.int)
theorem mo_X0_find : zMV mi_X0_find 0 := ⟨⟨zw_of (List.mem_of_getElem? (i := 10) (by decide +kernel)) rfl, zw_of (List.mem_of_getElem? (i := 687) (by decide +kernel)) rfl, ⟨by decide, by decide, by decide +kernel⟩, by decide +kernel, by decide⟩, zw_of (List.mem_of_getElem? (i := 685) (by decide +kernel)) rfl, zw_of (List.mem_of_getElem? (i := 686) (by decide +kernel)) rfl⟩
abbrev mi_X0_valueOf : zMI := (yX0_valueOf, cX0_valueOf, 7, some FieldType.int)
theorem mo_X0_valueOf : zMS mi_X0_valueOf 3 := ⟨⟨zw_of (List.mem_of_getElem? (i := 10) (by decide +kernel)) rfl, zw_of (List.mem_of_getElem? (i := 690) (by decide +kernel)) rfl, ⟨by decide, by decide, by decide +kernel⟩, by decide +kernel, by decide⟩, zw_of (List.mem_of_getElem? (i := 689) (by decide +kernel)) rfl⟩
abbrev mi_X0_valueOfEnd : zMI := (yX0_valueOfEnd, cX0_valueOfEnd, 2, some FieldType.int)
theorem mo_X0_valueOfEnd : zMS mi_X0_valueOfEnd 1 := ⟨⟨zw_of (List.mem_of_getElem? (i := 10) (by decide +kernel)) rfl, zw_of (List.mem_of_getElem? (i := 694) (by decide +kernel)) rfl, ⟨by decide, by decide, by decide +kernel⟩, by decide +kernel, by decide⟩, zw_of (List.mem_of_getElem? (i := 693) (by decide +kernel)) rfl⟩
abbrev mi_X10_greatest : zMI := (yX10_greatest, cX10_greatest, 6, some FieldType.int)
theorem mo_X10_greatest : zMV mi_X10_greatest 1 := ⟨⟨zw_of (List.mem_of_getElem? (i := 1) (by decide +kernel)) rfl, zw_of (List.mem_of_getElem? (i := 704) (by decide +kernel)) rfl, ⟨by decide, by decide, by decide +kernel⟩, by decide +kernel, by decide⟩, zw_of (List.mem_of_getElem? (i := 702) (by decide +kernel)) rfl, zw_of (List.mem_of_getElem? (i := 703) (by decide +kernel)) rfl⟩
abbrev mi_X10_harden : zMI := (yX10_harden, cX10_harden, 7, some FieldType.int)
theorem mo_X10_harden : zMV mi_X10_harden 4 := ⟨⟨zw_of (List.mem_of_getElem? (i := 1) (by decide +kernel)) rfl, zw_of (List.mem_of_getElem? (i := 709) (by decide +kernel)) rfl, ⟨by decide, by decide, by decide +kernel⟩, by decide +kernel, by decide⟩, zw_of (List.mem_of_getElem? (i := 707) (by decide +kernel)) rfl, zw_of (List.mem_of_getElem? (i := 708) (by decide +kernel)) rfl⟩
abbrev mi_X2_hardenedBy : zMI := (yX2_hardenedBy, cX2_hardenedBy, 7, some FieldType.int)
theorem mo_X2_hardenedBy : zMV mi_X2_hardenedBy 3 := ⟨⟨zw_of (List.mem_of_getElem? (i := 8) (by decide +kernel)) rfl, zw_of (List.mem_of_getElem? (i := 713) (by decide +kernel)) rfl, ⟨by decide, by decide, by decide +kernel⟩, by decide +kernel, by decide⟩, zw_of (List.mem_of_getElem? (i := 711) (by decide +kernel)) rfl, zw_of (List.mem_of_getElem? (i := 712) (by decide +kernel)) rfl⟩
abbrev mi_X10_deeds : zMI := (yX10_deeds, cX10_deeds, 5, some FieldType.int)
theorem mo_X10_deeds : zMV mi_X10_deeds 3 := ⟨⟨zw_of (List.mem_of_getElem? (i := 1) (by decide +kernel)) rfl, zw_of (List.mem_of_getElem? (i := 718) (by decide +kernel)) rfl, ⟨by decide, by decide, by decide +kernel⟩, by decide +kernel, by decide⟩, zw_of (List.mem_of_getElem? (i := 716) (by decide +kernel)) rfl, zw_of (List.mem_of_getElem? (i := 717) (by decide +kernel)) rfl⟩
abbrev mi_X2_fewestDeeds : zMI := (yX2_fewestDeeds, cX2_fewestDeeds, 6, some FieldType.int)
theorem mo_X2_fewestDeeds : zMV mi_X2_fewestDeeds 2 := ⟨⟨zw_of (List.mem_of_getElem? (i := 8) (by decide +kernel)) rfl, zw_of (List.mem_of_getElem? (i := 722) (by decide +kernel)) rfl, ⟨by decide, by decide, by decide +kernel⟩, by decide +kernel, by decide⟩, zw_of (List.mem_of_getElem? (i := 720) (by decide +kernel)) rfl, zw_of (List.mem_of_getElem? (i := 721) (by decide +kernel)) rfl⟩
abbrev mi_J_bitCount : zMI := (yJ_bitCount, prog_14_method_49_code, 1, some FieldType.int)
theorem mo_J_bitCount : zMS mi_J_bitCount 1 := ⟨⟨zw_of (List.mem_of_getElem? (i := 15) (by decide +kernel)) rfl, zw_of (List.mem_of_getElem? (i := 725) (by decide +kernel)) rfl, ⟨by decide, by decide, by decide +kernel⟩, by decide +kernel, by decide⟩, zw_of (List.mem_of_getElem? (i := 724) (by decide +kernel)) rfl⟩
abbrev mi_X2_howManyTrue : zMI := (yX2_howManyTrue, cX2_howManyTrue, 5, some FieldType.int)
theorem mo_X2_howManyTrue : zMV mi_X2_howManyTrue 1 := ⟨⟨zw_of (List.mem_of_getElem? (i := 8) (by decide +kernel)) rfl, zw_of (List.mem_of_getElem? (i := 733) (by decide +kernel)) rfl, ⟨by decide, by decide, by decide +kernel⟩, by decide +kernel, by decide⟩, zw_of (List.mem_of_getElem? (i := 732) (by decide +kernel)) rfl, zw_sel (List.mem_of_getElem? (i := 14) (by decide +kernel)) rfl⟩
abbrev mi_X10_league : zMI := (yX10_league, cX10_league, 2, some FieldType.int)
theorem mo_X10_league : zMV mi_X10_league 1 := ⟨⟨zw_of (List.mem_of_getElem? (i := 1) (by decide +kernel)) rfl, zw_of (List.mem_of_getElem? (i := 738) (by decide +kernel)) rfl, ⟨by decide, by decide, by decide +kernel⟩, by decide +kernel, by decide⟩, zw_of (List.mem_of_getElem? (i := 736) (by decide +kernel)) rfl, zw_of (List.mem_of_getElem? (i := 737) (by decide +kernel)) rfl⟩
abbrev mi_X3_possibleWinners : zMI := (yX3_possibleWinners, cX3_possibleWinners, 8, some FieldType.int)
theorem mo_X3_possibleWinners : zMV mi_X3_possibleWinners 2 := ⟨⟨zw_of (List.mem_of_getElem? (i := 5) (by decide +kernel)) rfl, zw_of (List.mem_of_getElem? (i := 742) (by decide +kernel)) rfl, ⟨by decide, by decide, by decide +kernel⟩, by decide +kernel, by decide⟩, zw_of (List.mem_of_getElem? (i := 740) (by decide +kernel)) rfl, zw_of (List.mem_of_getElem? (i := 741) (by decide +kernel)) rfl⟩
abbrev mi_X3_sumCounted : zMI := (yX3_sumCounted, cX3_sumCounted, 5, none)
theorem mo_X3_sumCounted : zMV mi_X3_sumCounted 1 := ⟨⟨zw_of (List.mem_of_getElem? (i := 5) (by decide +kernel)) rfl, zw_of (List.mem_of_getElem? (i := 746) (by decide +kernel)) rfl, ⟨by decide, by decide, by decide +kernel⟩, by decide +kernel, by decide⟩, zw_of (List.mem_of_getElem? (i := 745) (by decide +kernel)) rfl, zw_sel (List.mem_of_getElem? (i := 15) (by decide +kernel)) rfl⟩
abbrev mi_X3_canSettle : zMI := (yX3_canSettle, cX3_canSettle, 9, some FieldType.boolean)
theorem mo_X3_canSettle : zMS mi_X3_canSettle 4 := ⟨⟨zw_of (List.mem_of_getElem? (i := 5) (by decide +kernel)) rfl, zw_of (List.mem_of_getElem? (i := 749) (by decide +kernel)) rfl, ⟨by decide, by decide, by decide +kernel⟩, by decide +kernel, by decide⟩, zw_of (List.mem_of_getElem? (i := 748) (by decide +kernel)) rfl⟩
abbrev mi_X3_hasMost : zMI := (yX3_hasMost, cX3_hasMost, 3, some FieldType.boolean)
theorem mo_X3_hasMost : zMS mi_X3_hasMost 2 := ⟨⟨zw_of (List.mem_of_getElem? (i := 5) (by decide +kernel)) rfl, zw_of (List.mem_of_getElem? (i := 752) (by decide +kernel)) rfl, ⟨by decide, by decide, by decide +kernel⟩, by decide +kernel, by decide⟩, zw_of (List.mem_of_getElem? (i := 751) (by decide +kernel)) rfl⟩
abbrev mi_X10_met : zMI := (yX10_met, cX10_met, 3, some FieldType.int)
theorem mo_X10_met : zMV mi_X10_met 2 := ⟨⟨zw_of (List.mem_of_getElem? (i := 1) (by decide +kernel)) rfl, zw_of (List.mem_of_getElem? (i := 756) (by decide +kernel)) rfl, ⟨by decide, by decide, by decide +kernel⟩, by decide +kernel, by decide⟩, zw_of (List.mem_of_getElem? (i := 754) (by decide +kernel)) rfl, zw_of (List.mem_of_getElem? (i := 755) (by decide +kernel)) rfl⟩
abbrev mi_X3_meetingsOf : zMI := (yX3_meetingsOf, cX3_meetingsOf, 3, some FieldType.int)
theorem mo_X3_meetingsOf : zMV mi_X3_meetingsOf 2 := ⟨⟨zw_of (List.mem_of_getElem? (i := 5) (by decide +kernel)) rfl, zw_of (List.mem_of_getElem? (i := 760) (by decide +kernel)) rfl, ⟨by decide, by decide, by decide +kernel⟩, by decide +kernel, by decide⟩, zw_of (List.mem_of_getElem? (i := 758) (by decide +kernel)) rfl, zw_of (List.mem_of_getElem? (i := 759) (by decide +kernel)) rfl⟩
abbrev mi_X10_shared : zMI := (yX10_shared, cX10_shared, 6, some FieldType.int)
theorem mo_X10_shared : zMV mi_X10_shared 2 := ⟨⟨zw_of (List.mem_of_getElem? (i := 1) (by decide +kernel)) rfl, zw_of (List.mem_of_getElem? (i := 764) (by decide +kernel)) rfl, ⟨by decide, by decide, by decide +kernel⟩, by decide +kernel, by decide⟩, zw_of (List.mem_of_getElem? (i := 762) (by decide +kernel)) rfl, zw_of (List.mem_of_getElem? (i := 763) (by decide +kernel)) rfl⟩
abbrev mi_X10_powder : zMI := (yX10_powder, cX10_powder, 2, some FieldType.int)
theorem mo_X10_powder : zMV mi_X10_powder 0 := ⟨⟨zw_of (List.mem_of_getElem? (i := 1) (by decide +kernel)) rfl, zw_of (List.mem_of_getElem? (i := 769) (by decide +kernel)) rfl, ⟨by decide, by decide, by decide +kernel⟩, by decide +kernel, by decide⟩, zw_of (List.mem_of_getElem? (i := 767) (by decide +kernel)) rfl, zw_of (List.mem_of_getElem? (i := 768) (by decide +kernel)) rfl⟩
abbrev mi_X10_warm : zMI := (yX10_warm, cX10_warm, 5, some FieldType.int)
theorem mo_X10_warm : zMV mi_X10_warm 4 := ⟨⟨zw_of (List.mem_of_getElem? (i := 1) (by decide +kernel)) rfl, zw_of (List.mem_of_getElem? (i := 773) (by decide +kernel)) rfl, ⟨by decide, by decide, by decide +kernel⟩, by decide +kernel, by decide⟩, zw_of (List.mem_of_getElem? (i := 771) (by decide +kernel)) rfl, zw_of (List.mem_of_getElem? (i := 772) (by decide +kernel)) rfl⟩
abbrev mi_X5_addWarmed : zMI := (yX5_addWarmed, cX5_addWarmed, 5, some FieldType.int)
theorem mo_X5_addWarmed : zMV mi_X5_addWarmed 4 := ⟨⟨zw_of (List.mem_of_getElem? (i := 9) (by decide +kernel)) rfl, zw_of (List.mem_of_getElem? (i := 777) (by decide +kernel)) rfl, ⟨by decide, by decide, by decide +kernel⟩, by decide +kernel, by decide⟩, zw_of (List.mem_of_getElem? (i := 775) (by decide +kernel)) rfl, zw_of (List.mem_of_getElem? (i := 776) (by decide +kernel)) rfl⟩
abbrev mi_X10_vain : zMI := (yX10_vain, cX10_vain, 3, some FieldType.int)
theorem mo_X10_vain : zMV mi_X10_vain 2 := ⟨⟨zw_of (List.mem_of_getElem? (i := 1) (by decide +kernel)) rfl, zw_of (List.mem_of_getElem? (i := 782) (by decide +kernel)) rfl, ⟨by decide, by decide, by decide +kernel⟩, by decide +kernel, by decide⟩, zw_of (List.mem_of_getElem? (i := 780) (by decide +kernel)) rfl, zw_of (List.mem_of_getElem? (i := 781) (by decide +kernel)) rfl⟩
abbrev mi_X5_fittingVanities : zMI := (yX5_fittingVanities, cX5_fittingVanities, 6, some FieldType.int)
theorem mo_X5_fittingVanities : zMV mi_X5_fittingVanities 3 := ⟨⟨zw_of (List.mem_of_getElem? (i := 9) (by decide +kernel)) rfl, zw_of (List.mem_of_getElem? (i := 786) (by decide +kernel)) rfl, ⟨by decide, by decide, by decide +kernel⟩, by decide +kernel, by decide⟩, zw_of (List.mem_of_getElem? (i := 784) (by decide +kernel)) rfl, zw_of (List.mem_of_getElem? (i := 785) (by decide +kernel)) rfl⟩
abbrev mi_X5_fitsAll : zMI := (yX5_fitsAll, cX5_fitsAll, 8, some FieldType.boolean)
theorem mo_X5_fitsAll : zMV mi_X5_fitsAll 4 := ⟨⟨zw_of (List.mem_of_getElem? (i := 9) (by decide +kernel)) rfl, zw_of (List.mem_of_getElem? (i := 790) (by decide +kernel)) rfl, ⟨by decide, by decide, by decide +kernel⟩, by decide +kernel, by decide⟩, zw_of (List.mem_of_getElem? (i := 789) (by decide +kernel)) rfl, zw_sel (List.mem_of_getElem? (i := 16) (by decide +kernel)) rfl⟩
abbrev mi_X5_mark : zMI := (yX5_mark, cX5_mark, 3, some FieldType.int)
theorem mo_X5_mark : zMV mi_X5_mark 2 := ⟨⟨zw_of (List.mem_of_getElem? (i := 9) (by decide +kernel)) rfl, zw_of (List.mem_of_getElem? (i := 794) (by decide +kernel)) rfl, ⟨by decide, by decide, by decide +kernel⟩, by decide +kernel, by decide⟩, zw_of (List.mem_of_getElem? (i := 793) (by decide +kernel)) rfl, zw_sel (List.mem_of_getElem? (i := 17) (by decide +kernel)) rfl⟩
abbrev mi_X10_probe : zMI := (yX10_probe, cX10_probe, 3, some FieldType.int)
theorem mo_X10_probe : zMV mi_X10_probe 2 := ⟨⟨zw_of (List.mem_of_getElem? (i := 1) (by decide +kernel)) rfl, zw_of (List.mem_of_getElem? (i := 801) (by decide +kernel)) rfl, ⟨by decide, by decide, by decide +kernel⟩, by decide +kernel, by decide⟩, zw_of (List.mem_of_getElem? (i := 799) (by decide +kernel)) rfl, zw_of (List.mem_of_getElem? (i := 800) (by decide +kernel)) rfl⟩
abbrev mi_X5_partingPhrase : zMI := (yX5_partingPhrase, cX5_partingPhrase, 9, some FieldType.int)
theorem mo_X5_partingPhrase : zMV mi_X5_partingPhrase 3 := ⟨⟨zw_of (List.mem_of_getElem? (i := 9) (by decide +kernel)) rfl, zw_of (List.mem_of_getElem? (i := 805) (by decide +kernel)) rfl, ⟨by decide, by decide, by decide +kernel⟩, by decide +kernel, by decide⟩, zw_of (List.mem_of_getElem? (i := 803) (by decide +kernel)) rfl, zw_of (List.mem_of_getElem? (i := 804) (by decide +kernel)) rfl⟩
abbrev mi_X5_greatestPart : zMI := (yX5_greatestPart, cX5_greatestPart, 8, some FieldType.int)
theorem mo_X5_greatestPart : zMV mi_X5_greatestPart 4 := ⟨⟨zw_of (List.mem_of_getElem? (i := 9) (by decide +kernel)) rfl, zw_of (List.mem_of_getElem? (i := 811) (by decide +kernel)) rfl, ⟨by decide, by decide, by decide +kernel⟩, by decide +kernel, by decide⟩, zw_of (List.mem_of_getElem? (i := 810) (by decide +kernel)) rfl, zw_sel (List.mem_of_getElem? (i := 18) (by decide +kernel)) rfl⟩
abbrev mi_X10_cheek : zMI := (yX10_cheek, cX10_cheek, 2, some FieldType.int)
theorem mo_X10_cheek : zMV mi_X10_cheek 1 := ⟨⟨zw_of (List.mem_of_getElem? (i := 1) (by decide +kernel)) rfl, zw_of (List.mem_of_getElem? (i := 819) (by decide +kernel)) rfl, ⟨by decide, by decide, by decide +kernel⟩, by decide +kernel, by decide⟩, zw_of (List.mem_of_getElem? (i := 817) (by decide +kernel)) rfl, zw_of (List.mem_of_getElem? (i := 818) (by decide +kernel)) rfl⟩
abbrev mi_X5_addCheek : zMI := (yX5_addCheek, cX5_addCheek, 2, some FieldType.int)
theorem mo_X5_addCheek : zMV mi_X5_addCheek 1 := ⟨⟨zw_of (List.mem_of_getElem? (i := 9) (by decide +kernel)) rfl, zw_of (List.mem_of_getElem? (i := 823) (by decide +kernel)) rfl, ⟨by decide, by decide, by decide +kernel⟩, by decide +kernel, by decide⟩, zw_of (List.mem_of_getElem? (i := 821) (by decide +kernel)) rfl, zw_of (List.mem_of_getElem? (i := 822) (by decide +kernel)) rfl⟩
abbrev mi_X10_said : zMI := (yX10_said, cX10_said, 2, some FieldType.int)
theorem mo_X10_said : zMV mi_X10_said 1 := ⟨⟨zw_of (List.mem_of_getElem? (i := 1) (by decide +kernel)) rfl, zw_of (List.mem_of_getElem? (i := 827) (by decide +kernel)) rfl, ⟨by decide, by decide, by decide +kernel⟩, by decide +kernel, by decide⟩, zw_of (List.mem_of_getElem? (i := 825) (by decide +kernel)) rfl, zw_of (List.mem_of_getElem? (i := 826) (by decide +kernel)) rfl⟩
abbrev mi_X7_findAll : zMI := (yX7_findAll, cX7_findAll, 5, none)
theorem mo_X7_findAll : zMV mi_X7_findAll 1 := ⟨⟨zw_of (List.mem_of_getElem? (i := 11) (by decide +kernel)) rfl, zw_of (List.mem_of_getElem? (i := 831) (by decide +kernel)) rfl, ⟨by decide, by decide, by decide +kernel⟩, by decide +kernel, by decide⟩, zw_of (List.mem_of_getElem? (i := 829) (by decide +kernel)) rfl, zw_of (List.mem_of_getElem? (i := 830) (by decide +kernel)) rfl⟩
abbrev mi_X7_extend : zMI := (yX7_extend, cX7_extend, 11, none)
theorem mo_X7_extend : zMS mi_X7_extend 4 := ⟨⟨zw_of (List.mem_of_getElem? (i := 11) (by decide +kernel)) rfl, zw_of (List.mem_of_getElem? (i := 839) (by decide +kernel)) rfl, ⟨by decide, by decide, by decide +kernel⟩, by decide +kernel, by decide⟩, zw_of (List.mem_of_getElem? (i := 838) (by decide +kernel)) rfl⟩
abbrev mi_X7_addRow : zMI := (yX7_addRow, cX7_addRow, 2, none)
theorem mo_X7_addRow : zMV mi_X7_addRow 1 := ⟨⟨zw_of (List.mem_of_getElem? (i := 11) (by decide +kernel)) rfl, zw_of (List.mem_of_getElem? (i := 843) (by decide +kernel)) rfl, ⟨by decide, by decide, by decide +kernel⟩, by decide +kernel, by decide⟩, zw_of (List.mem_of_getElem? (i := 842) (by decide +kernel)) rfl, zw_sel (List.mem_of_getElem? (i := 19) (by decide +kernel)) rfl⟩
abbrev mi_X5_cheekAt : zMI := (yX5_cheekAt, cX5_cheekAt, 2, some FieldType.int)
theorem mo_X5_cheekAt : zMV mi_X5_cheekAt 1 := ⟨⟨zw_of (List.mem_of_getElem? (i := 9) (by decide +kernel)) rfl, zw_of (List.mem_of_getElem? (i := 852) (by decide +kernel)) rfl, ⟨by decide, by decide, by decide +kernel⟩, by decide +kernel, by decide⟩, zw_of (List.mem_of_getElem? (i := 850) (by decide +kernel)) rfl, zw_of (List.mem_of_getElem? (i := 851) (by decide +kernel)) rfl⟩
abbrev mi_X7_first : zMI := (yX7_first, cX7_first, 2, some FieldType.int)
theorem mo_X7_first : zMV mi_X7_first 1 := ⟨⟨zw_of (List.mem_of_getElem? (i := 11) (by decide +kernel)) rfl, zw_of (List.mem_of_getElem? (i := 859) (by decide +kernel)) rfl, ⟨by decide, by decide, by decide +kernel⟩, by decide +kernel, by decide⟩, zw_of (List.mem_of_getElem? (i := 857) (by decide +kernel)) rfl, zw_of (List.mem_of_getElem? (i := 858) (by decide +kernel)) rfl⟩
abbrev mi_X10_surely : zMI := (yX10_surely, cX10_surely, 1, some FieldType.int)
theorem mo_X10_surely : zMV mi_X10_surely 0 := ⟨⟨zw_of (List.mem_of_getElem? (i := 1) (by decide +kernel)) rfl, zw_of (List.mem_of_getElem? (i := 863) (by decide +kernel)) rfl, ⟨by decide, by decide, by decide +kernel⟩, by decide +kernel, by decide⟩, zw_of (List.mem_of_getElem? (i := 861) (by decide +kernel)) rfl, zw_of (List.mem_of_getElem? (i := 862) (by decide +kernel)) rfl⟩
abbrev mi_X10_write : zMI := (yX10_write, cX10_write, 2, some FieldType.int)
theorem mo_X10_write : zMV mi_X10_write 1 := ⟨⟨zw_of (List.mem_of_getElem? (i := 1) (by decide +kernel)) rfl, zw_of (List.mem_of_getElem? (i := 867) (by decide +kernel)) rfl, ⟨by decide, by decide, by decide +kernel⟩, by decide +kernel, by decide⟩, zw_of (List.mem_of_getElem? (i := 865) (by decide +kernel)) rfl, zw_of (List.mem_of_getElem? (i := 866) (by decide +kernel)) rfl⟩
abbrev mi_X5_addTurn : zMI := (yX5_addTurn, cX5_addTurn, 2, some FieldType.int)
theorem mo_X5_addTurn : zMV mi_X5_addTurn 1 := ⟨⟨zw_of (List.mem_of_getElem? (i := 9) (by decide +kernel)) rfl, zw_of (List.mem_of_getElem? (i := 871) (by decide +kernel)) rfl, ⟨by decide, by decide, by decide +kernel⟩, by decide +kernel, by decide⟩, zw_of (List.mem_of_getElem? (i := 869) (by decide +kernel)) rfl, zw_of (List.mem_of_getElem? (i := 870) (by decide +kernel)) rfl⟩
abbrev mi_X10_judge : zMI := (yX10_judge, cX10_judge, 3, some FieldType.int)
theorem mo_X10_judge : zMV mi_X10_judge 1 := ⟨⟨zw_of (List.mem_of_getElem? (i := 1) (by decide +kernel)) rfl, zw_of (List.mem_of_getElem? (i := 875) (by decide +kernel)) rfl, ⟨by decide, by decide, by decide +kernel⟩, by decide +kernel, by decide⟩, zw_of (List.mem_of_getElem? (i := 873) (by decide +kernel)) rfl, zw_of (List.mem_of_getElem? (i := 874) (by decide +kernel)) rfl⟩
abbrev mi_X5_playBook : zMI := (yX5_playBook, cX5_playBook, 5, some FieldType.int)
theorem mo_X5_playBook : zMV mi_X5_playBook 2 := ⟨⟨zw_of (List.mem_of_getElem? (i := 9) (by decide +kernel)) rfl, zw_of (List.mem_of_getElem? (i := 879) (by decide +kernel)) rfl, ⟨by decide, by decide, by decide +kernel⟩, by decide +kernel, by decide⟩, zw_of (List.mem_of_getElem? (i := 877) (by decide +kernel)) rfl, zw_of (List.mem_of_getElem? (i := 878) (by decide +kernel)) rfl⟩
abbrev mi_X10_tear : zMI := (yX10_tear, cX10_tear, 1, some FieldType.int)
theorem mo_X10_tear : zMV mi_X10_tear 0 := ⟨⟨zw_of (List.mem_of_getElem? (i := 1) (by decide +kernel)) rfl, zw_of (List.mem_of_getElem? (i := 885) (by decide +kernel)) rfl, ⟨by decide, by decide, by decide +kernel⟩, by decide +kernel, by decide⟩, zw_of (List.mem_of_getElem? (i := 883) (by decide +kernel)) rfl, zw_of (List.mem_of_getElem? (i := 884) (by decide +kernel)) rfl⟩
abbrev mi_X10_seed : zMI := (yX10_seed, cX10_seed, 3, some FieldType.int)
theorem mo_X10_seed : zMV mi_X10_seed 1 := ⟨⟨zw_of (List.mem_of_getElem? (i := 1) (by decide +kernel)) rfl, zw_of (List.mem_of_getElem? (i := 889) (by decide +kernel)) rfl, ⟨by decide, by decide, by decide +kernel⟩, by decide +kernel, by decide⟩, zw_of (List.mem_of_getElem? (i := 887) (by decide +kernel)) rfl, zw_of (List.mem_of_getElem? (i := 888) (by decide +kernel)) rfl⟩
abbrev mi_X10_keep : zMI := (yX10_keep, cX10_keep, 2, some FieldType.int)
theorem mo_X10_keep : zMV mi_X10_keep 1 := ⟨⟨zw_of (List.mem_of_getElem? (i := 1) (by decide +kernel)) rfl, zw_of (List.mem_of_getElem? (i := 893) (by decide +kernel)) rfl, ⟨by decide, by decide, by decide +kernel⟩, by decide +kernel, by decide⟩, zw_of (List.mem_of_getElem? (i := 891) (by decide +kernel)) rfl, zw_of (List.mem_of_getElem? (i := 892) (by decide +kernel)) rfl⟩
abbrev mi_X10_isImage : zMI := (yX10_isImage, cX10_isImage, 2, some FieldType.boolean)
theorem mo_X10_isImage : zMV mi_X10_isImage 1 := ⟨⟨zw_of (List.mem_of_getElem? (i := 1) (by decide +kernel)) rfl, zw_of (List.mem_of_getElem? (i := 897) (by decide +kernel)) rfl, ⟨by decide, by decide, by decide +kernel⟩, by decide +kernel, by decide⟩, zw_of (List.mem_of_getElem? (i := 896) (by decide +kernel)) rfl, zw_sel (List.mem_of_getElem? (i := 20) (by decide +kernel)) rfl⟩
abbrev mi_X9_copyFrom : zMI := (yX9_copyFrom, cX9_copyFrom, 2, none)
theorem mo_X9_copyFrom : zMV mi_X9_copyFrom 1 := ⟨⟨zw_of (List.mem_of_getElem? (i := 4) (by decide +kernel)) rfl, zw_of (List.mem_of_getElem? (i := 901) (by decide +kernel)) rfl, ⟨by decide, by decide, by decide +kernel⟩, by decide +kernel, by decide⟩, zw_of (List.mem_of_getElem? (i := 899) (by decide +kernel)) rfl, zw_of (List.mem_of_getElem? (i := 900) (by decide +kernel)) rfl⟩
abbrev mi_X2_copyFrom : zMI := (yX2_copyFrom, cX2_copyFrom, 2, none)
theorem mo_X2_copyFrom : zMV mi_X2_copyFrom 1 := ⟨⟨zw_of (List.mem_of_getElem? (i := 8) (by decide +kernel)) rfl, zw_of (List.mem_of_getElem? (i := 905) (by decide +kernel)) rfl, ⟨by decide, by decide, by decide +kernel⟩, by decide +kernel, by decide⟩, zw_of (List.mem_of_getElem? (i := 903) (by decide +kernel)) rfl, zw_of (List.mem_of_getElem? (i := 904) (by decide +kernel)) rfl⟩
abbrev mi_X3_copyFrom : zMI := (yX3_copyFrom, cX3_copyFrom, 2, none)
theorem mo_X3_copyFrom : zMV mi_X3_copyFrom 1 := ⟨⟨zw_of (List.mem_of_getElem? (i := 5) (by decide +kernel)) rfl, zw_of (List.mem_of_getElem? (i := 909) (by decide +kernel)) rfl, ⟨by decide, by decide, by decide +kernel⟩, by decide +kernel, by decide⟩, zw_of (List.mem_of_getElem? (i := 907) (by decide +kernel)) rfl, zw_of (List.mem_of_getElem? (i := 908) (by decide +kernel)) rfl⟩
abbrev mi_X10_goBack : zMI := (yX10_goBack, cX10_goBack, 2, some FieldType.int)
theorem mo_X10_goBack : zMV mi_X10_goBack 1 := ⟨⟨zw_of (List.mem_of_getElem? (i := 1) (by decide +kernel)) rfl, zw_of (List.mem_of_getElem? (i := 915) (by decide +kernel)) rfl, ⟨by decide, by decide, by decide +kernel⟩, by decide +kernel, by decide⟩, zw_of (List.mem_of_getElem? (i := 913) (by decide +kernel)) rfl, zw_of (List.mem_of_getElem? (i := 914) (by decide +kernel)) rfl⟩
abbrev mi_X11_init : zMI := (yX11_init, cX11_init, 1, none)
theorem mo_X11_init : zMC mi_X11_init 0 := ⟨⟨zw_of (List.mem_of_getElem? (i := 12) (by decide +kernel)) rfl, zw_of (List.mem_of_getElem? (i := 920) (by decide +kernel)) rfl, ⟨by decide, by decide, by decide +kernel⟩, by decide +kernel, by decide⟩, zw_of (List.mem_of_getElem? (i := 919) (by decide +kernel)) rfl, rfl, rfl⟩
abbrev mi_X11_feed : zMI := (yX11_feed, cX11_feed, 2, some FieldType.int)
theorem mo_X11_feed : zMV mi_X11_feed 1 := ⟨⟨zw_of (List.mem_of_getElem? (i := 12) (by decide +kernel)) rfl, zw_of (List.mem_of_getElem? (i := 1031) (by decide +kernel)) rfl, ⟨by decide, by decide, by decide +kernel⟩, by decide +kernel, by decide⟩, zw_of (List.mem_of_getElem? (i := 1029) (by decide +kernel)) rfl, zw_of (List.mem_of_getElem? (i := 1030) (by decide +kernel)) rfl⟩
abbrev mi_X11_in : zMI := (yX11_in, cX11_in, 3, some FieldType.boolean)
theorem mo_X11_in : zMS mi_X11_in 3 := ⟨⟨zw_of (List.mem_of_getElem? (i := 12) (by decide +kernel)) rfl, zw_of (List.mem_of_getElem? (i := 1034) (by decide +kernel)) rfl, ⟨by decide, by decide, by decide +kernel⟩, by decide +kernel, by decide⟩, zw_of (List.mem_of_getElem? (i := 1033) (by decide +kernel)) rfl⟩
abbrev mi_X11_meadow : zMI := (yX11_meadow, cX11_meadow, 3, some FieldType.int)
theorem mo_X11_meadow : zMV mi_X11_meadow 0 := ⟨⟨zw_of (List.mem_of_getElem? (i := 12) (by decide +kernel)) rfl, zw_of (List.mem_of_getElem? (i := 1040) (by decide +kernel)) rfl, ⟨by decide, by decide, by decide +kernel⟩, by decide +kernel, by decide⟩, zw_of (List.mem_of_getElem? (i := 1038) (by decide +kernel)) rfl, zw_of (List.mem_of_getElem? (i := 1039) (by decide +kernel)) rfl⟩
abbrev mi_X11_advances : zMI := (yX11_advances, cX11_advances, 2, none)
theorem mo_X11_advances : zMV mi_X11_advances 0 := ⟨⟨zw_of (List.mem_of_getElem? (i := 12) (by decide +kernel)) rfl, zw_of (List.mem_of_getElem? (i := 1044) (by decide +kernel)) rfl, ⟨by decide, by decide, by decide +kernel⟩, by decide +kernel, by decide⟩, zw_of (List.mem_of_getElem? (i := 1043) (by decide +kernel)) rfl, zw_sel (List.mem_of_getElem? (i := 21) (by decide +kernel)) rfl⟩
abbrev mi_X11_letterAt : zMI := (yX11_letterAt, cX11_letterAt, 2, some FieldType.int)
theorem mo_X11_letterAt : zMV mi_X11_letterAt 1 := ⟨⟨zw_of (List.mem_of_getElem? (i := 12) (by decide +kernel)) rfl, zw_of (List.mem_of_getElem? (i := 1048) (by decide +kernel)) rfl, ⟨by decide, by decide, by decide +kernel⟩, by decide +kernel, by decide⟩, zw_of (List.mem_of_getElem? (i := 1047) (by decide +kernel)) rfl, zw_sel (List.mem_of_getElem? (i := 22) (by decide +kernel)) rfl⟩
abbrev mi_X11_isWell : zMI := (yX11_isWell, cX11_isWell, 1, some FieldType.boolean)
theorem mo_X11_isWell : zMV mi_X11_isWell 0 := ⟨⟨zw_of (List.mem_of_getElem? (i := 12) (by decide +kernel)) rfl, zw_of (List.mem_of_getElem? (i := 1052) (by decide +kernel)) rfl, ⟨by decide, by decide, by decide +kernel⟩, by decide +kernel, by decide⟩, zw_of (List.mem_of_getElem? (i := 1051) (by decide +kernel)) rfl, zw_sel (List.mem_of_getElem? (i := 23) (by decide +kernel)) rfl⟩
abbrev mi_X11_faultOf : zMI := (yX11_faultOf, cX11_faultOf, 1, some FieldType.int)
theorem mo_X11_faultOf : zMV mi_X11_faultOf 0 := ⟨⟨zw_of (List.mem_of_getElem? (i := 12) (by decide +kernel)) rfl, zw_of (List.mem_of_getElem? (i := 1056) (by decide +kernel)) rfl, ⟨by decide, by decide, by decide +kernel⟩, by decide +kernel, by decide⟩, zw_of (List.mem_of_getElem? (i := 1055) (by decide +kernel)) rfl, zw_sel (List.mem_of_getElem? (i := 24) (by decide +kernel)) rfl⟩
abbrev mi_X11_fails : zMI := (yX11_fails, cX11_fails, 2, none)
theorem mo_X11_fails : zMV mi_X11_fails 1 := ⟨⟨zw_of (List.mem_of_getElem? (i := 12) (by decide +kernel)) rfl, zw_of (List.mem_of_getElem? (i := 1060) (by decide +kernel)) rfl, ⟨by decide, by decide, by decide +kernel⟩, by decide +kernel, by decide⟩, zw_of (List.mem_of_getElem? (i := 1059) (by decide +kernel)) rfl, zw_sel (List.mem_of_getElem? (i := 25) (by decide +kernel)) rfl⟩
abbrev mi_X11_clause : zMI := (yX11_clause, cX11_clause, 5, none)
theorem mo_X11_clause : zMV mi_X11_clause 1 := ⟨⟨zw_of (List.mem_of_getElem? (i := 12) (by decide +kernel)) rfl, zw_of (List.mem_of_getElem? (i := 1064) (by decide +kernel)) rfl, ⟨by decide, by decide, by decide +kernel⟩, by decide +kernel, by decide⟩, zw_of (List.mem_of_getElem? (i := 1063) (by decide +kernel)) rfl, zw_sel (List.mem_of_getElem? (i := 26) (by decide +kernel)) rfl⟩
abbrev mi_X11_number : zMI := (yX11_number, cX11_number, 5, some FieldType.int)
theorem mo_X11_number : zMV mi_X11_number 3 := ⟨⟨zw_of (List.mem_of_getElem? (i := 12) (by decide +kernel)) rfl, zw_of (List.mem_of_getElem? (i := 1068) (by decide +kernel)) rfl, ⟨by decide, by decide, by decide +kernel⟩, by decide +kernel, by decide⟩, zw_of (List.mem_of_getElem? (i := 1067) (by decide +kernel)) rfl, zw_sel (List.mem_of_getElem? (i := 27) (by decide +kernel)) rfl⟩
abbrev mi_X11_ends : zMI := (yX11_ends, cX11_ends, 1, none)
theorem mo_X11_ends : zMV mi_X11_ends 0 := ⟨⟨zw_of (List.mem_of_getElem? (i := 12) (by decide +kernel)) rfl, zw_of (List.mem_of_getElem? (i := 1072) (by decide +kernel)) rfl, ⟨by decide, by decide, by decide +kernel⟩, by decide +kernel, by decide⟩, zw_of (List.mem_of_getElem? (i := 1071) (by decide +kernel)) rfl, zw_sel (List.mem_of_getElem? (i := 28) (by decide +kernel)) rfl⟩
abbrev mi_X11_settles : zMI := (yX11_settles, cX11_settles, 3, none)
theorem mo_X11_settles : zMV mi_X11_settles 0 := ⟨⟨zw_of (List.mem_of_getElem? (i := 12) (by decide +kernel)) rfl, zw_of (List.mem_of_getElem? (i := 1076) (by decide +kernel)) rfl, ⟨by decide, by decide, by decide +kernel⟩, by decide +kernel, by decide⟩, zw_of (List.mem_of_getElem? (i := 1075) (by decide +kernel)) rfl, zw_sel (List.mem_of_getElem? (i := 29) (by decide +kernel)) rfl⟩
abbrev mi_X11_fault : zMI := (yX11_fault, cX11_fault, 1, some FieldType.int)
theorem mo_X11_fault : zMV mi_X11_fault 0 := ⟨⟨zw_of (List.mem_of_getElem? (i := 12) (by decide +kernel)) rfl, zw_of (List.mem_of_getElem? (i := 1080) (by decide +kernel)) rfl, ⟨by decide, by decide, by decide +kernel⟩, by decide +kernel, by decide⟩, zw_of (List.mem_of_getElem? (i := 1078) (by decide +kernel)) rfl, zw_of (List.mem_of_getElem? (i := 1079) (by decide +kernel)) rfl⟩
abbrev mi_X11_told : zMI := (yX11_told, cX11_told, 2, some FieldType.int)
theorem mo_X11_told : zMV mi_X11_told 1 := ⟨⟨zw_of (List.mem_of_getElem? (i := 12) (by decide +kernel)) rfl, zw_of (List.mem_of_getElem? (i := 1084) (by decide +kernel)) rfl, ⟨by decide, by decide, by decide +kernel⟩, by decide +kernel, by decide⟩, zw_of (List.mem_of_getElem? (i := 1082) (by decide +kernel)) rfl, zw_of (List.mem_of_getElem? (i := 1083) (by decide +kernel)) rfl⟩
abbrev mi_X11_goesOn : zMI := (yX11_goesOn, cX11_goesOn, 1, some FieldType.boolean)
theorem mo_X11_goesOn : zMV mi_X11_goesOn 0 := ⟨⟨zw_of (List.mem_of_getElem? (i := 12) (by decide +kernel)) rfl, zw_of (List.mem_of_getElem? (i := 1088) (by decide +kernel)) rfl, ⟨by decide, by decide, by decide +kernel⟩, by decide +kernel, by decide⟩, zw_of (List.mem_of_getElem? (i := 1087) (by decide +kernel)) rfl, zw_sel (List.mem_of_getElem? (i := 30) (by decide +kernel)) rfl⟩
abbrev mi_X11_isDuel : zMI := (yX11_isDuel, cX11_isDuel, 1, some FieldType.boolean)
theorem mo_X11_isDuel : zMV mi_X11_isDuel 0 := ⟨⟨zw_of (List.mem_of_getElem? (i := 12) (by decide +kernel)) rfl, zw_of (List.mem_of_getElem? (i := 1092) (by decide +kernel)) rfl, ⟨by decide, by decide, by decide +kernel⟩, by decide +kernel, by decide⟩, zw_of (List.mem_of_getElem? (i := 1091) (by decide +kernel)) rfl, zw_sel (List.mem_of_getElem? (i := 31) (by decide +kernel)) rfl⟩
abbrev mi_X11_whose : zMI := (yX11_whose, cX11_whose, 1, some FieldType.int)
theorem mo_X11_whose : zMV mi_X11_whose 0 := ⟨⟨zw_of (List.mem_of_getElem? (i := 12) (by decide +kernel)) rfl, zw_of (List.mem_of_getElem? (i := 1096) (by decide +kernel)) rfl, ⟨by decide, by decide, by decide +kernel⟩, by decide +kernel, by decide⟩, zw_of (List.mem_of_getElem? (i := 1095) (by decide +kernel)) rfl, zw_sel (List.mem_of_getElem? (i := 32) (by decide +kernel)) rfl⟩
abbrev mi_X11_duellist : zMI := (yX11_duellist, cX11_duellist, 4, some FieldType.int)
theorem mo_X11_duellist : zMV mi_X11_duellist 2 := ⟨⟨zw_of (List.mem_of_getElem? (i := 12) (by decide +kernel)) rfl, zw_of (List.mem_of_getElem? (i := 1100) (by decide +kernel)) rfl, ⟨by decide, by decide, by decide +kernel⟩, by decide +kernel, by decide⟩, zw_of (List.mem_of_getElem? (i := 1098) (by decide +kernel)) rfl, zw_of (List.mem_of_getElem? (i := 1099) (by decide +kernel)) rfl⟩
abbrev mi_X11_isDuellist : zMI := (yX11_isDuellist, cX11_isDuellist, 2, some FieldType.boolean)
theorem mo_X11_isDuellist : zMV mi_X11_isDuellist 1 := ⟨⟨zw_of (List.mem_of_getElem? (i := 12) (by decide +kernel)) rfl, zw_of (List.mem_of_getElem? (i := 1104) (by decide +kernel)) rfl, ⟨by decide, by decide, by decide +kernel⟩, by decide +kernel, by decide⟩, zw_of (List.mem_of_getElem? (i := 1103) (by decide +kernel)) rfl, zw_sel (List.mem_of_getElem? (i := 33) (by decide +kernel)) rfl⟩
abbrev mi_X11_sideOf : zMI := (yX11_sideOf, cX11_sideOf, 2, some FieldType.int)
theorem mo_X11_sideOf : zMV mi_X11_sideOf 1 := ⟨⟨zw_of (List.mem_of_getElem? (i := 12) (by decide +kernel)) rfl, zw_of (List.mem_of_getElem? (i := 1109) (by decide +kernel)) rfl, ⟨by decide, by decide, by decide +kernel⟩, by decide +kernel, by decide⟩, zw_of (List.mem_of_getElem? (i := 1108) (by decide +kernel)) rfl, zw_sel (List.mem_of_getElem? (i := 34) (by decide +kernel)) rfl⟩
abbrev mi_X11_compliment : zMI := (yX11_compliment, cX11_compliment, 3, some FieldType.int)
theorem mo_X11_compliment : zMV mi_X11_compliment 2 := ⟨⟨zw_of (List.mem_of_getElem? (i := 12) (by decide +kernel)) rfl, zw_of (List.mem_of_getElem? (i := 1113) (by decide +kernel)) rfl, ⟨by decide, by decide, by decide +kernel⟩, by decide +kernel, by decide⟩, zw_of (List.mem_of_getElem? (i := 1111) (by decide +kernel)) rfl, zw_of (List.mem_of_getElem? (i := 1112) (by decide +kernel)) rfl⟩
abbrev mi_X11_isCompliment : zMI := (yX11_isCompliment, cX11_isCompliment, 2, some FieldType.boolean)
theorem mo_X11_isCompliment : zMV mi_X11_isCompliment 1 := ⟨⟨zw_of (List.mem_of_getElem? (i := 12) (by decide +kernel)) rfl, zw_of (List.mem_of_getElem? (i := 1117) (by decide +kernel)) rfl, ⟨by decide, by decide, by decide +kernel⟩, by decide +kernel, by decide⟩, zw_of (List.mem_of_getElem? (i := 1116) (by decide +kernel)) rfl, zw_sel (List.mem_of_getElem? (i := 35) (by decide +kernel)) rfl⟩
abbrev mi_X11_truth : zMI := (yX11_truth, cX11_truth, 3, some FieldType.int)
theorem mo_X11_truth : zMV mi_X11_truth 2 := ⟨⟨zw_of (List.mem_of_getElem? (i := 12) (by decide +kernel)) rfl, zw_of (List.mem_of_getElem? (i := 1121) (by decide +kernel)) rfl, ⟨by decide, by decide, by decide +kernel⟩, by decide +kernel, by decide⟩, zw_of (List.mem_of_getElem? (i := 1119) (by decide +kernel)) rfl, zw_of (List.mem_of_getElem? (i := 1120) (by decide +kernel)) rfl⟩
abbrev mi_X11_truthBy : zMI := (yX11_truthBy, cX11_truthBy, 7, some FieldType.int)
theorem mo_X11_truthBy : zMV mi_X11_truthBy 2 := ⟨⟨zw_of (List.mem_of_getElem? (i := 12) (by decide +kernel)) rfl, zw_of (List.mem_of_getElem? (i := 1125) (by decide +kernel)) rfl, ⟨by decide, by decide, by decide +kernel⟩, by decide +kernel, by decide⟩, zw_of (List.mem_of_getElem? (i := 1124) (by decide +kernel)) rfl, zw_sel (List.mem_of_getElem? (i := 36) (by decide +kernel)) rfl⟩
abbrev mi_X11_ones : zMI := (yX11_ones, cX11_ones, 3, some FieldType.int)
theorem mo_X11_ones : zMS mi_X11_ones 1 := ⟨⟨zw_of (List.mem_of_getElem? (i := 12) (by decide +kernel)) rfl, zw_of (List.mem_of_getElem? (i := 1128) (by decide +kernel)) rfl, ⟨by decide, by decide, by decide +kernel⟩, by decide +kernel, by decide⟩, zw_of (List.mem_of_getElem? (i := 1127) (by decide +kernel)) rfl⟩
abbrev mi_X11_effect : zMI := (yX11_effect, cX11_effect, 4, some FieldType.int)
theorem mo_X11_effect : zMV mi_X11_effect 2 := ⟨⟨zw_of (List.mem_of_getElem? (i := 12) (by decide +kernel)) rfl, zw_of (List.mem_of_getElem? (i := 1132) (by decide +kernel)) rfl, ⟨by decide, by decide, by decide +kernel⟩, by decide +kernel, by decide⟩, zw_of (List.mem_of_getElem? (i := 1130) (by decide +kernel)) rfl, zw_of (List.mem_of_getElem? (i := 1131) (by decide +kernel)) rfl⟩
abbrev mi_X11_firstTold : zMI := (yX11_firstTold, cX11_firstTold, 3, some FieldType.int)
theorem mo_X11_firstTold : zMV mi_X11_firstTold 2 := ⟨⟨zw_of (List.mem_of_getElem? (i := 12) (by decide +kernel)) rfl, zw_of (List.mem_of_getElem? (i := 1136) (by decide +kernel)) rfl, ⟨by decide, by decide, by decide +kernel⟩, by decide +kernel, by decide⟩, zw_of (List.mem_of_getElem? (i := 1135) (by decide +kernel)) rfl, zw_sel (List.mem_of_getElem? (i := 37) (by decide +kernel)) rfl⟩
abbrev mi_X11_vanityOf : zMI := (yX11_vanityOf, cX11_vanityOf, 3, some FieldType.int)
theorem mo_X11_vanityOf : zMV mi_X11_vanityOf 2 := ⟨⟨zw_of (List.mem_of_getElem? (i := 12) (by decide +kernel)) rfl, zw_of (List.mem_of_getElem? (i := 1140) (by decide +kernel)) rfl, ⟨by decide, by decide, by decide +kernel⟩, by decide +kernel, by decide⟩, zw_of (List.mem_of_getElem? (i := 1139) (by decide +kernel)) rfl, zw_sel (List.mem_of_getElem? (i := 38) (by decide +kernel)) rfl⟩
abbrev mi_X11_effectBy : zMI := (yX11_effectBy, cX11_effectBy, 8, some FieldType.int)
theorem mo_X11_effectBy : zMV mi_X11_effectBy 4 := ⟨⟨zw_of (List.mem_of_getElem? (i := 12) (by decide +kernel)) rfl, zw_of (List.mem_of_getElem? (i := 1144) (by decide +kernel)) rfl, ⟨by decide, by decide, by decide +kernel⟩, by decide +kernel, by decide⟩, zw_of (List.mem_of_getElem? (i := 1143) (by decide +kernel)) rfl, zw_sel (List.mem_of_getElem? (i := 39) (by decide +kernel)) rfl⟩
abbrev mi_X11_duel : zMI := (yX11_duel, cX11_duel, 4, some FieldType.int)
theorem mo_X11_duel : zMV mi_X11_duel 2 := ⟨⟨zw_of (List.mem_of_getElem? (i := 12) (by decide +kernel)) rfl, zw_of (List.mem_of_getElem? (i := 1148) (by decide +kernel)) rfl, ⟨by decide, by decide, by decide +kernel⟩, by decide +kernel, by decide⟩, zw_of (List.mem_of_getElem? (i := 1146) (by decide +kernel)) rfl, zw_of (List.mem_of_getElem? (i := 1147) (by decide +kernel)) rfl⟩
abbrev mi_X11_say : zMI := (yX11_say, cX11_say, 2, some FieldType.int)
theorem mo_X11_say : zMV mi_X11_say 1 := ⟨⟨zw_of (List.mem_of_getElem? (i := 12) (by decide +kernel)) rfl, zw_of (List.mem_of_getElem? (i := 1152) (by decide +kernel)) rfl, ⟨by decide, by decide, by decide +kernel⟩, by decide +kernel, by decide⟩, zw_of (List.mem_of_getElem? (i := 1150) (by decide +kernel)) rfl, zw_of (List.mem_of_getElem? (i := 1151) (by decide +kernel)) rfl⟩
abbrev mi_X11_canTurn : zMI := (yX11_canTurn, cX11_canTurn, 3, some FieldType.boolean)
theorem mo_X11_canTurn : zMV mi_X11_canTurn 2 := ⟨⟨zw_of (List.mem_of_getElem? (i := 12) (by decide +kernel)) rfl, zw_of (List.mem_of_getElem? (i := 1156) (by decide +kernel)) rfl, ⟨by decide, by decide, by decide +kernel⟩, by decide +kernel, by decide⟩, zw_of (List.mem_of_getElem? (i := 1155) (by decide +kernel)) rfl, zw_sel (List.mem_of_getElem? (i := 40) (by decide +kernel)) rfl⟩
abbrev mi_X11_does : zMI := (yX11_does, cX11_does, 4, none)
theorem mo_X11_does : zMV mi_X11_does 1 := ⟨⟨zw_of (List.mem_of_getElem? (i := 12) (by decide +kernel)) rfl, zw_of (List.mem_of_getElem? (i := 1161) (by decide +kernel)) rfl, ⟨by decide, by decide, by decide +kernel⟩, by decide +kernel, by decide⟩, zw_of (List.mem_of_getElem? (i := 1160) (by decide +kernel)) rfl, zw_sel (List.mem_of_getElem? (i := 41) (by decide +kernel)) rfl⟩
abbrev mi_X11_turns : zMI := (yX11_turns, cX11_turns, 5, none)
theorem mo_X11_turns : zMV mi_X11_turns 2 := ⟨⟨zw_of (List.mem_of_getElem? (i := 12) (by decide +kernel)) rfl, zw_of (List.mem_of_getElem? (i := 1165) (by decide +kernel)) rfl, ⟨by decide, by decide, by decide +kernel⟩, by decide +kernel, by decide⟩, zw_of (List.mem_of_getElem? (i := 1164) (by decide +kernel)) rfl, zw_sel (List.mem_of_getElem? (i := 42) (by decide +kernel)) rfl⟩
abbrev mi_X11_over : zMI := (yX11_over, cX11_over, 6, none)
theorem mo_X11_over : zMS mi_X11_over 2 := ⟨⟨zw_of (List.mem_of_getElem? (i := 12) (by decide +kernel)) rfl, zw_of (List.mem_of_getElem? (i := 1168) (by decide +kernel)) rfl, ⟨by decide, by decide, by decide +kernel⟩, by decide +kernel, by decide⟩, zw_of (List.mem_of_getElem? (i := 1167) (by decide +kernel)) rfl⟩
abbrev mi_X11_pairOf : zMI := (yX11_pairOf, cX11_pairOf, 4, some FieldType.int)
theorem mo_X11_pairOf : zMS mi_X11_pairOf 2 := ⟨⟨zw_of (List.mem_of_getElem? (i := 12) (by decide +kernel)) rfl, zw_of (List.mem_of_getElem? (i := 1171) (by decide +kernel)) rfl, ⟨by decide, by decide, by decide +kernel⟩, by decide +kernel, by decide⟩, zw_of (List.mem_of_getElem? (i := 1170) (by decide +kernel)) rfl⟩
abbrev mi_X11_says : zMI := (yX11_says, cX11_says, 8, none)
theorem mo_X11_says : zMV mi_X11_says 2 := ⟨⟨zw_of (List.mem_of_getElem? (i := 12) (by decide +kernel)) rfl, zw_of (List.mem_of_getElem? (i := 1175) (by decide +kernel)) rfl, ⟨by decide, by decide, by decide +kernel⟩, by decide +kernel, by decide⟩, zw_of (List.mem_of_getElem? (i := 1174) (by decide +kernel)) rfl, zw_sel (List.mem_of_getElem? (i := 43) (by decide +kernel)) rfl⟩
abbrev mi_X11_pass : zMI := (yX11_pass, cX11_pass, 1, some FieldType.int)
theorem mo_X11_pass : zMV mi_X11_pass 0 := ⟨⟨zw_of (List.mem_of_getElem? (i := 12) (by decide +kernel)) rfl, zw_of (List.mem_of_getElem? (i := 1179) (by decide +kernel)) rfl, ⟨by decide, by decide, by decide +kernel⟩, by decide +kernel, by decide⟩, zw_of (List.mem_of_getElem? (i := 1177) (by decide +kernel)) rfl, zw_of (List.mem_of_getElem? (i := 1178) (by decide +kernel)) rfl⟩
abbrev mi_X11_sorr : zMI := (yX11_sorr, cX11_sorr, 2, some FieldType.int)
theorem mo_X11_sorr : zMV mi_X11_sorr 0 := ⟨⟨zw_of (List.mem_of_getElem? (i := 12) (by decide +kernel)) rfl, zw_of (List.mem_of_getElem? (i := 1183) (by decide +kernel)) rfl, ⟨by decide, by decide, by decide +kernel⟩, by decide +kernel, by decide⟩, zw_of (List.mem_of_getElem? (i := 1181) (by decide +kernel)) rfl, zw_of (List.mem_of_getElem? (i := 1182) (by decide +kernel)) rfl⟩
abbrev mi_X11_undo : zMI := (yX11_undo, cX11_undo, 4, some FieldType.int)
theorem mo_X11_undo : zMV mi_X11_undo 1 := ⟨⟨zw_of (List.mem_of_getElem? (i := 12) (by decide +kernel)) rfl, zw_of (List.mem_of_getElem? (i := 1187) (by decide +kernel)) rfl, ⟨by decide, by decide, by decide +kernel⟩, by decide +kernel, by decide⟩, zw_of (List.mem_of_getElem? (i := 1185) (by decide +kernel)) rfl, zw_of (List.mem_of_getElem? (i := 1186) (by decide +kernel)) rfl⟩
abbrev mi_X11_act : zMI := (yX11_act, cX11_act, 3, some FieldType.int)
theorem mo_X11_act : zMV mi_X11_act 2 := ⟨⟨zw_of (List.mem_of_getElem? (i := 12) (by decide +kernel)) rfl, zw_of (List.mem_of_getElem? (i := 1191) (by decide +kernel)) rfl, ⟨by decide, by decide, by decide +kernel⟩, by decide +kernel, by decide⟩, zw_of (List.mem_of_getElem? (i := 1189) (by decide +kernel)) rfl, zw_of (List.mem_of_getElem? (i := 1190) (by decide +kernel)) rfl⟩
abbrev mi_X11_vanity : zMI := (yX11_vanity, cX11_vanity, 5, some FieldType.int)
theorem mo_X11_vanity : zMV mi_X11_vanity 3 := ⟨⟨zw_of (List.mem_of_getElem? (i := 12) (by decide +kernel)) rfl, zw_of (List.mem_of_getElem? (i := 1195) (by decide +kernel)) rfl, ⟨by decide, by decide, by decide +kernel⟩, by decide +kernel, by decide⟩, zw_of (List.mem_of_getElem? (i := 1193) (by decide +kernel)) rfl, zw_of (List.mem_of_getElem? (i := 1194) (by decide +kernel)) rfl⟩
abbrev mi_X11_drift : zMI := (yX11_drift, cX11_drift, 3, some FieldType.int)
theorem mo_X11_drift : zMV mi_X11_drift 1 := ⟨⟨zw_of (List.mem_of_getElem? (i := 12) (by decide +kernel)) rfl, zw_of (List.mem_of_getElem? (i := 1199) (by decide +kernel)) rfl, ⟨by decide, by decide, by decide +kernel⟩, by decide +kernel, by decide⟩, zw_of (List.mem_of_getElem? (i := 1197) (by decide +kernel)) rfl, zw_of (List.mem_of_getElem? (i := 1198) (by decide +kernel)) rfl⟩
abbrev mi_X11_draw : zMI := (yX11_draw, cX11_draw, 2, some FieldType.int)
theorem mo_X11_draw : zMV mi_X11_draw 1 := ⟨⟨zw_of (List.mem_of_getElem? (i := 12) (by decide +kernel)) rfl, zw_of (List.mem_of_getElem? (i := 1203) (by decide +kernel)) rfl, ⟨by decide, by decide, by decide +kernel⟩, by decide +kernel, by decide⟩, zw_of (List.mem_of_getElem? (i := 1202) (by decide +kernel)) rfl, zw_sel (List.mem_of_getElem? (i := 44) (by decide +kernel)) rfl⟩
abbrev mi_X11_unsaid : zMI := (yX11_unsaid, cX11_unsaid, 4, some FieldType.int)
theorem mo_X11_unsaid : zMV mi_X11_unsaid 1 := ⟨⟨zw_of (List.mem_of_getElem? (i := 12) (by decide +kernel)) rfl, zw_of (List.mem_of_getElem? (i := 1210) (by decide +kernel)) rfl, ⟨by decide, by decide, by decide +kernel⟩, by decide +kernel, by decide⟩, zw_of (List.mem_of_getElem? (i := 1209) (by decide +kernel)) rfl, zw_sel (List.mem_of_getElem? (i := 45) (by decide +kernel)) rfl⟩
abbrev mi_X11_best : zMI := (yX11_best, cX11_best, 3, some FieldType.int)
theorem mo_X11_best : zMV mi_X11_best 1 := ⟨⟨zw_of (List.mem_of_getElem? (i := 12) (by decide +kernel)) rfl, zw_of (List.mem_of_getElem? (i := 1214) (by decide +kernel)) rfl, ⟨by decide, by decide, by decide +kernel⟩, by decide +kernel, by decide⟩, zw_of (List.mem_of_getElem? (i := 1212) (by decide +kernel)) rfl, zw_of (List.mem_of_getElem? (i := 1213) (by decide +kernel)) rfl⟩
abbrev mi_X11_plays : zMI := (yX11_plays, cX11_plays, 4, some FieldType.int)
theorem mo_X11_plays : zMV mi_X11_plays 0 := ⟨⟨zw_of (List.mem_of_getElem? (i := 12) (by decide +kernel)) rfl, zw_of (List.mem_of_getElem? (i := 1218) (by decide +kernel)) rfl, ⟨by decide, by decide, by decide +kernel⟩, by decide +kernel, by decide⟩, zw_of (List.mem_of_getElem? (i := 1217) (by decide +kernel)) rfl, zw_sel (List.mem_of_getElem? (i := 46) (by decide +kernel)) rfl⟩
abbrev mi_X11_asNow : zMI := (yX11_asNow, cX11_asNow, 2, none)
theorem mo_X11_asNow : zMV mi_X11_asNow 0 := ⟨⟨zw_of (List.mem_of_getElem? (i := 12) (by decide +kernel)) rfl, zw_of (List.mem_of_getElem? (i := 1222) (by decide +kernel)) rfl, ⟨by decide, by decide, by decide +kernel⟩, by decide +kernel, by decide⟩, zw_of (List.mem_of_getElem? (i := 1221) (by decide +kernel)) rfl, zw_sel (List.mem_of_getElem? (i := 47) (by decide +kernel)) rfl⟩
abbrev mi_X11_pushes : zMI := (yX11_pushes, cX11_pushes, 3, none)
theorem mo_X11_pushes : zMV mi_X11_pushes 1 := ⟨⟨zw_of (List.mem_of_getElem? (i := 12) (by decide +kernel)) rfl, zw_of (List.mem_of_getElem? (i := 1226) (by decide +kernel)) rfl, ⟨by decide, by decide, by decide +kernel⟩, by decide +kernel, by decide⟩, zw_of (List.mem_of_getElem? (i := 1225) (by decide +kernel)) rfl, zw_sel (List.mem_of_getElem? (i := 48) (by decide +kernel)) rfl⟩
abbrev mi_X11_merges : zMI := (yX11_merges, cX11_merges, 3, none)
theorem mo_X11_merges : zMV mi_X11_merges 2 := ⟨⟨zw_of (List.mem_of_getElem? (i := 12) (by decide +kernel)) rfl, zw_of (List.mem_of_getElem? (i := 1230) (by decide +kernel)) rfl, ⟨by decide, by decide, by decide +kernel⟩, by decide +kernel, by decide⟩, zw_of (List.mem_of_getElem? (i := 1229) (by decide +kernel)) rfl, zw_sel (List.mem_of_getElem? (i := 49) (by decide +kernel)) rfl⟩
abbrev mi_X11_loads : zMI := (yX11_loads, cX11_loads, 3, none)
theorem mo_X11_loads : zMV mi_X11_loads 1 := ⟨⟨zw_of (List.mem_of_getElem? (i := 12) (by decide +kernel)) rfl, zw_of (List.mem_of_getElem? (i := 1234) (by decide +kernel)) rfl, ⟨by decide, by decide, by decide +kernel⟩, by decide +kernel, by decide⟩, zw_of (List.mem_of_getElem? (i := 1233) (by decide +kernel)) rfl, zw_sel (List.mem_of_getElem? (i := 50) (by decide +kernel)) rfl⟩
abbrev mi_X11_greatest : zMI := (yX11_greatest, cX11_greatest, 5, some FieldType.int)
theorem mo_X11_greatest : zMV mi_X11_greatest 1 := ⟨⟨zw_of (List.mem_of_getElem? (i := 12) (by decide +kernel)) rfl, zw_of (List.mem_of_getElem? (i := 1238) (by decide +kernel)) rfl, ⟨by decide, by decide, by decide +kernel⟩, by decide +kernel, by decide⟩, zw_of (List.mem_of_getElem? (i := 1236) (by decide +kernel)) rfl, zw_of (List.mem_of_getElem? (i := 1237) (by decide +kernel)) rfl⟩
abbrev mi_X11_against : zMI := (yX11_against, cX11_against, 1, some FieldType.int)
theorem mo_X11_against : zMV mi_X11_against 0 := ⟨⟨zw_of (List.mem_of_getElem? (i := 12) (by decide +kernel)) rfl, zw_of (List.mem_of_getElem? (i := 1242) (by decide +kernel)) rfl, ⟨by decide, by decide, by decide +kernel⟩, by decide +kernel, by decide⟩, zw_of (List.mem_of_getElem? (i := 1241) (by decide +kernel)) rfl, zw_sel (List.mem_of_getElem? (i := 51) (by decide +kernel)) rfl⟩
abbrev mi_X11_effectNow : zMI := (yX11_effectNow, cX11_effectNow, 3, some FieldType.int)
theorem mo_X11_effectNow : zMV mi_X11_effectNow 1 := ⟨⟨zw_of (List.mem_of_getElem? (i := 12) (by decide +kernel)) rfl, zw_of (List.mem_of_getElem? (i := 1246) (by decide +kernel)) rfl, ⟨by decide, by decide, by decide +kernel⟩, by decide +kernel, by decide⟩, zw_of (List.mem_of_getElem? (i := 1245) (by decide +kernel)) rfl, zw_sel (List.mem_of_getElem? (i := 52) (by decide +kernel)) rfl⟩
abbrev mi_X11_harden : zMI := (yX11_harden, cX11_harden, 7, some FieldType.int)
theorem mo_X11_harden : zMV mi_X11_harden 4 := ⟨⟨zw_of (List.mem_of_getElem? (i := 12) (by decide +kernel)) rfl, zw_of (List.mem_of_getElem? (i := 1250) (by decide +kernel)) rfl, ⟨by decide, by decide, by decide +kernel⟩, by decide +kernel, by decide⟩, zw_of (List.mem_of_getElem? (i := 1248) (by decide +kernel)) rfl, zw_of (List.mem_of_getElem? (i := 1249) (by decide +kernel)) rfl⟩
abbrev mi_X11_less : zMI := (yX11_less, cX11_less, 7, some FieldType.int)
theorem mo_X11_less : zMV mi_X11_less 3 := ⟨⟨zw_of (List.mem_of_getElem? (i := 12) (by decide +kernel)) rfl, zw_of (List.mem_of_getElem? (i := 1254) (by decide +kernel)) rfl, ⟨by decide, by decide, by decide +kernel⟩, by decide +kernel, by decide⟩, zw_of (List.mem_of_getElem? (i := 1253) (by decide +kernel)) rfl, zw_sel (List.mem_of_getElem? (i := 53) (by decide +kernel)) rfl⟩
abbrev mi_X11_deeds : zMI := (yX11_deeds, cX11_deeds, 8, some FieldType.int)
theorem mo_X11_deeds : zMV mi_X11_deeds 3 := ⟨⟨zw_of (List.mem_of_getElem? (i := 12) (by decide +kernel)) rfl, zw_of (List.mem_of_getElem? (i := 1258) (by decide +kernel)) rfl, ⟨by decide, by decide, by decide +kernel⟩, by decide +kernel, by decide⟩, zw_of (List.mem_of_getElem? (i := 1256) (by decide +kernel)) rfl, zw_of (List.mem_of_getElem? (i := 1257) (by decide +kernel)) rfl⟩
abbrev mi_X11_league : zMI := (yX11_league, cX11_league, 6, some FieldType.int)
theorem mo_X11_league : zMV mi_X11_league 1 := ⟨⟨zw_of (List.mem_of_getElem? (i := 12) (by decide +kernel)) rfl, zw_of (List.mem_of_getElem? (i := 1262) (by decide +kernel)) rfl, ⟨by decide, by decide, by decide +kernel⟩, by decide +kernel, by decide⟩, zw_of (List.mem_of_getElem? (i := 1260) (by decide +kernel)) rfl, zw_of (List.mem_of_getElem? (i := 1261) (by decide +kernel)) rfl⟩
abbrev mi_X11_isFirst : zMI := (yX11_isFirst, cX11_isFirst, 9, some FieldType.boolean)
theorem mo_X11_isFirst : zMV mi_X11_isFirst 3 := ⟨⟨zw_of (List.mem_of_getElem? (i := 12) (by decide +kernel)) rfl, zw_of (List.mem_of_getElem? (i := 1266) (by decide +kernel)) rfl, ⟨by decide, by decide, by decide +kernel⟩, by decide +kernel, by decide⟩, zw_of (List.mem_of_getElem? (i := 1265) (by decide +kernel)) rfl, zw_sel (List.mem_of_getElem? (i := 54) (by decide +kernel)) rfl⟩
abbrev mi_X11_counted : zMI := (yX11_counted, cX11_counted, 6, none)
theorem mo_X11_counted : zMV mi_X11_counted 1 := ⟨⟨zw_of (List.mem_of_getElem? (i := 12) (by decide +kernel)) rfl, zw_of (List.mem_of_getElem? (i := 1270) (by decide +kernel)) rfl, ⟨by decide, by decide, by decide +kernel⟩, by decide +kernel, by decide⟩, zw_of (List.mem_of_getElem? (i := 1269) (by decide +kernel)) rfl, zw_sel (List.mem_of_getElem? (i := 55) (by decide +kernel)) rfl⟩
abbrev mi_X11_leftOf : zMI := (yX11_leftOf, cX11_leftOf, 5, some FieldType.int)
theorem mo_X11_leftOf : zMV mi_X11_leftOf 3 := ⟨⟨zw_of (List.mem_of_getElem? (i := 12) (by decide +kernel)) rfl, zw_of (List.mem_of_getElem? (i := 1274) (by decide +kernel)) rfl, ⟨by decide, by decide, by decide +kernel⟩, by decide +kernel, by decide⟩, zw_of (List.mem_of_getElem? (i := 1273) (by decide +kernel)) rfl, zw_sel (List.mem_of_getElem? (i := 56) (by decide +kernel)) rfl⟩
abbrev mi_X11_met : zMI := (yX11_met, cX11_met, 3, some FieldType.int)
theorem mo_X11_met : zMV mi_X11_met 2 := ⟨⟨zw_of (List.mem_of_getElem? (i := 12) (by decide +kernel)) rfl, zw_of (List.mem_of_getElem? (i := 1278) (by decide +kernel)) rfl, ⟨by decide, by decide, by decide +kernel⟩, by decide +kernel, by decide⟩, zw_of (List.mem_of_getElem? (i := 1276) (by decide +kernel)) rfl, zw_of (List.mem_of_getElem? (i := 1277) (by decide +kernel)) rfl⟩
abbrev mi_X11_shared : zMI := (yX11_shared, cX11_shared, 5, some FieldType.int)
theorem mo_X11_shared : zMV mi_X11_shared 2 := ⟨⟨zw_of (List.mem_of_getElem? (i := 12) (by decide +kernel)) rfl, zw_of (List.mem_of_getElem? (i := 1282) (by decide +kernel)) rfl, ⟨by decide, by decide, by decide +kernel⟩, by decide +kernel, by decide⟩, zw_of (List.mem_of_getElem? (i := 1280) (by decide +kernel)) rfl, zw_of (List.mem_of_getElem? (i := 1281) (by decide +kernel)) rfl⟩
abbrev mi_X11_powder : zMI := (yX11_powder, cX11_powder, 1, some FieldType.int)
theorem mo_X11_powder : zMV mi_X11_powder 0 := ⟨⟨zw_of (List.mem_of_getElem? (i := 12) (by decide +kernel)) rfl, zw_of (List.mem_of_getElem? (i := 1286) (by decide +kernel)) rfl, ⟨by decide, by decide, by decide +kernel⟩, by decide +kernel, by decide⟩, zw_of (List.mem_of_getElem? (i := 1284) (by decide +kernel)) rfl, zw_of (List.mem_of_getElem? (i := 1285) (by decide +kernel)) rfl⟩
abbrev mi_X11_warm : zMI := (yX11_warm, cX11_warm, 6, some FieldType.int)
theorem mo_X11_warm : zMV mi_X11_warm 4 := ⟨⟨zw_of (List.mem_of_getElem? (i := 12) (by decide +kernel)) rfl, zw_of (List.mem_of_getElem? (i := 1290) (by decide +kernel)) rfl, ⟨by decide, by decide, by decide +kernel⟩, by decide +kernel, by decide⟩, zw_of (List.mem_of_getElem? (i := 1288) (by decide +kernel)) rfl, zw_of (List.mem_of_getElem? (i := 1289) (by decide +kernel)) rfl⟩
abbrev mi_X11_vain : zMI := (yX11_vain, cX11_vain, 3, some FieldType.int)
theorem mo_X11_vain : zMV mi_X11_vain 2 := ⟨⟨zw_of (List.mem_of_getElem? (i := 12) (by decide +kernel)) rfl, zw_of (List.mem_of_getElem? (i := 1294) (by decide +kernel)) rfl, ⟨by decide, by decide, by decide +kernel⟩, by decide +kernel, by decide⟩, zw_of (List.mem_of_getElem? (i := 1292) (by decide +kernel)) rfl, zw_of (List.mem_of_getElem? (i := 1293) (by decide +kernel)) rfl⟩
abbrev mi_X11_vanities : zMI := (yX11_vanities, cX11_vanities, 9, some FieldType.int)
theorem mo_X11_vanities : zMV mi_X11_vanities 2 := ⟨⟨zw_of (List.mem_of_getElem? (i := 12) (by decide +kernel)) rfl, zw_of (List.mem_of_getElem? (i := 1298) (by decide +kernel)) rfl, ⟨by decide, by decide, by decide +kernel⟩, by decide +kernel, by decide⟩, zw_of (List.mem_of_getElem? (i := 1297) (by decide +kernel)) rfl, zw_sel (List.mem_of_getElem? (i := 57) (by decide +kernel)) rfl⟩
abbrev mi_X11_probe : zMI := (yX11_probe, cX11_probe, 7, some FieldType.int)
theorem mo_X11_probe : zMV mi_X11_probe 2 := ⟨⟨zw_of (List.mem_of_getElem? (i := 12) (by decide +kernel)) rfl, zw_of (List.mem_of_getElem? (i := 1302) (by decide +kernel)) rfl, ⟨by decide, by decide, by decide +kernel⟩, by decide +kernel, by decide⟩, zw_of (List.mem_of_getElem? (i := 1300) (by decide +kernel)) rfl, zw_of (List.mem_of_getElem? (i := 1301) (by decide +kernel)) rfl⟩
abbrev mi_X11_greatestPart : zMI := (yX11_greatestPart, cX11_greatestPart, 9, some FieldType.int)
theorem mo_X11_greatestPart : zMV mi_X11_greatestPart 3 := ⟨⟨zw_of (List.mem_of_getElem? (i := 12) (by decide +kernel)) rfl, zw_of (List.mem_of_getElem? (i := 1306) (by decide +kernel)) rfl, ⟨by decide, by decide, by decide +kernel⟩, by decide +kernel, by decide⟩, zw_of (List.mem_of_getElem? (i := 1305) (by decide +kernel)) rfl, zw_sel (List.mem_of_getElem? (i := 58) (by decide +kernel)) rfl⟩
abbrev mi_X11_cheek : zMI := (yX11_cheek, cX11_cheek, 2, some FieldType.int)
theorem mo_X11_cheek : zMV mi_X11_cheek 1 := ⟨⟨zw_of (List.mem_of_getElem? (i := 12) (by decide +kernel)) rfl, zw_of (List.mem_of_getElem? (i := 1310) (by decide +kernel)) rfl, ⟨by decide, by decide, by decide +kernel⟩, by decide +kernel, by decide⟩, zw_of (List.mem_of_getElem? (i := 1308) (by decide +kernel)) rfl, zw_of (List.mem_of_getElem? (i := 1309) (by decide +kernel)) rfl⟩
abbrev mi_X11_said : zMI := (yX11_said, cX11_said, 5, some FieldType.int)
theorem mo_X11_said : zMV mi_X11_said 1 := ⟨⟨zw_of (List.mem_of_getElem? (i := 12) (by decide +kernel)) rfl, zw_of (List.mem_of_getElem? (i := 1314) (by decide +kernel)) rfl, ⟨by decide, by decide, by decide +kernel⟩, by decide +kernel, by decide⟩, zw_of (List.mem_of_getElem? (i := 1312) (by decide +kernel)) rfl, zw_of (List.mem_of_getElem? (i := 1313) (by decide +kernel)) rfl⟩
abbrev mi_X11_isRow : zMI := (yX11_isRow, cX11_isRow, 12, some FieldType.boolean)
theorem mo_X11_isRow : zMV mi_X11_isRow 1 := ⟨⟨zw_of (List.mem_of_getElem? (i := 12) (by decide +kernel)) rfl, zw_of (List.mem_of_getElem? (i := 1318) (by decide +kernel)) rfl, ⟨by decide, by decide, by decide +kernel⟩, by decide +kernel, by decide⟩, zw_of (List.mem_of_getElem? (i := 1317) (by decide +kernel)) rfl, zw_sel (List.mem_of_getElem? (i := 59) (by decide +kernel)) rfl⟩
abbrev mi_X11_surely : zMI := (yX11_surely, cX11_surely, 5, some FieldType.int)
theorem mo_X11_surely : zMV mi_X11_surely 0 := ⟨⟨zw_of (List.mem_of_getElem? (i := 12) (by decide +kernel)) rfl, zw_of (List.mem_of_getElem? (i := 1322) (by decide +kernel)) rfl, ⟨by decide, by decide, by decide +kernel⟩, by decide +kernel, by decide⟩, zw_of (List.mem_of_getElem? (i := 1320) (by decide +kernel)) rfl, zw_of (List.mem_of_getElem? (i := 1321) (by decide +kernel)) rfl⟩
abbrev mi_X11_write : zMI := (yX11_write, cX11_write, 2, some FieldType.int)
theorem mo_X11_write : zMV mi_X11_write 1 := ⟨⟨zw_of (List.mem_of_getElem? (i := 12) (by decide +kernel)) rfl, zw_of (List.mem_of_getElem? (i := 1326) (by decide +kernel)) rfl, ⟨by decide, by decide, by decide +kernel⟩, by decide +kernel, by decide⟩, zw_of (List.mem_of_getElem? (i := 1324) (by decide +kernel)) rfl, zw_of (List.mem_of_getElem? (i := 1325) (by decide +kernel)) rfl⟩
abbrev mi_X11_judge : zMI := (yX11_judge, cX11_judge, 4, some FieldType.int)
theorem mo_X11_judge : zMV mi_X11_judge 1 := ⟨⟨zw_of (List.mem_of_getElem? (i := 12) (by decide +kernel)) rfl, zw_of (List.mem_of_getElem? (i := 1330) (by decide +kernel)) rfl, ⟨by decide, by decide, by decide +kernel⟩, by decide +kernel, by decide⟩, zw_of (List.mem_of_getElem? (i := 1328) (by decide +kernel)) rfl, zw_of (List.mem_of_getElem? (i := 1329) (by decide +kernel)) rfl⟩
abbrev mi_X11_tear : zMI := (yX11_tear, cX11_tear, 2, some FieldType.int)
theorem mo_X11_tear : zMV mi_X11_tear 0 := ⟨⟨zw_of (List.mem_of_getElem? (i := 12) (by decide +kernel)) rfl, zw_of (List.mem_of_getElem? (i := 1334) (by decide +kernel)) rfl, ⟨by decide, by decide, by decide +kernel⟩, by decide +kernel, by decide⟩, zw_of (List.mem_of_getElem? (i := 1332) (by decide +kernel)) rfl, zw_of (List.mem_of_getElem? (i := 1333) (by decide +kernel)) rfl⟩
abbrev mi_X11_seed : zMI := (yX11_seed, cX11_seed, 3, some FieldType.int)
theorem mo_X11_seed : zMV mi_X11_seed 1 := ⟨⟨zw_of (List.mem_of_getElem? (i := 12) (by decide +kernel)) rfl, zw_of (List.mem_of_getElem? (i := 1338) (by decide +kernel)) rfl, ⟨by decide, by decide, by decide +kernel⟩, by decide +kernel, by decide⟩, zw_of (List.mem_of_getElem? (i := 1336) (by decide +kernel)) rfl, zw_of (List.mem_of_getElem? (i := 1337) (by decide +kernel)) rfl⟩
abbrev mi_X11_keep : zMI := (yX11_keep, cX11_keep, 3, some FieldType.int)
theorem mo_X11_keep : zMV mi_X11_keep 1 := ⟨⟨zw_of (List.mem_of_getElem? (i := 12) (by decide +kernel)) rfl, zw_of (List.mem_of_getElem? (i := 1342) (by decide +kernel)) rfl, ⟨by decide, by decide, by decide +kernel⟩, by decide +kernel, by decide⟩, zw_of (List.mem_of_getElem? (i := 1340) (by decide +kernel)) rfl, zw_of (List.mem_of_getElem? (i := 1341) (by decide +kernel)) rfl⟩
abbrev mi_X11_goBack : zMI := (yX11_goBack, cX11_goBack, 3, some FieldType.int)
theorem mo_X11_goBack : zMV mi_X11_goBack 1 := ⟨⟨zw_of (List.mem_of_getElem? (i := 12) (by decide +kernel)) rfl, zw_of (List.mem_of_getElem? (i := 1346) (by decide +kernel)) rfl, ⟨by decide, by decide, by decide +kernel⟩, by decide +kernel, by decide⟩, zw_of (List.mem_of_getElem? (i := 1344) (by decide +kernel)) rfl, zw_of (List.mem_of_getElem? (i := 1345) (by decide +kernel)) rfl⟩
theorem nc_L_7 : zNC RL 7 9 := ⟨(RX10, TX10, 10), rfl, zw_of (List.mem_of_getElem? (i := 16) (by decide +kernel)) rfl, zw_of (List.mem_of_getElem? (i := 17) (by decide +kernel)) rfl, zw_of (List.mem_of_getElem? (i := 1) (by decide +kernel)) rfl⟩
theorem ml_L_9 : zML RL 9 mi_X10_init := zw_of (List.mem_of_getElem? (i := 18) (by decide +kernel)) rfl
theorem oi_X10_1 : zOI RX10 1 := zw_of (List.mem_of_getElem? (i := 21) (by decide +kernel)) rfl
theorem nc_X10_7 : zNC RX10 7 4 := ⟨(RX4, TX4, 6), rfl, zw_of (List.mem_of_getElem? (i := 24) (by decide +kernel)) rfl, zw_of (List.mem_of_getElem? (i := 25) (by decide +kernel)) rfl, zw_of (List.mem_of_getElem? (i := 2) (by decide +kernel)) rfl⟩
theorem oi_X4_3 : zOI RX4 3 := zw_of (List.mem_of_getElem? (i := 29) (by decide +kernel)) rfl
theorem nc_X10_16 : zNC RX10 16 6 := ⟨(RX6, TX6, 7), rfl, zw_of (List.mem_of_getElem? (i := 63) (by decide +kernel)) rfl, zw_of (List.mem_of_getElem? (i := 64) (by decide +kernel)) rfl, zw_of (List.mem_of_getElem? (i := 3) (by decide +kernel)) rfl⟩
theorem oi_X6_3 : zOI RX6 3 := zw_of (List.mem_of_getElem? (i := 68) (by decide +kernel)) rfl
theorem nc_X6_9 : zNC RX6 9 4 := ⟨(RX4, TX4, 6), rfl, zw_of (List.mem_of_getElem? (i := 69) (by decide +kernel)) rfl, zw_of (List.mem_of_getElem? (i := 25) (by decide +kernel)) rfl, zw_of (List.mem_of_getElem? (i := 2) (by decide +kernel)) rfl⟩
theorem nc_X10_23 : zNC RX10 23 8 := ⟨(RX9, TX9, 4), rfl, zw_of (List.mem_of_getElem? (i := 96) (by decide +kernel)) rfl, zw_of (List.mem_of_getElem? (i := 97) (by decide +kernel)) rfl, zw_of (List.mem_of_getElem? (i := 4) (by decide +kernel)) rfl⟩
theorem ml_X10_25 : zML RX10 25 mi_X9_init := zw_of (List.mem_of_getElem? (i := 98) (by decide +kernel)) rfl
theorem oi_X9_3 : zOI RX9 3 := zw_of (List.mem_of_getElem? (i := 101) (by decide +kernel)) rfl
theorem nc_X9_9 : zNC RX9 9 3 := ⟨(RX3, TX3, 5), rfl, zw_of (List.mem_of_getElem? (i := 102) (by decide +kernel)) rfl, zw_of (List.mem_of_getElem? (i := 103) (by decide +kernel)) rfl, zw_of (List.mem_of_getElem? (i := 5) (by decide +kernel)) rfl⟩
theorem oi_X3_3 : zOI RX3 3 := zw_of (List.mem_of_getElem? (i := 107) (by decide +kernel)) rfl
theorem nc_X9_18 : zNC RX9 18 1 := ⟨(RX1, TX1, 2), rfl, zw_of (List.mem_of_getElem? (i := 124) (by decide +kernel)) rfl, zw_of (List.mem_of_getElem? (i := 125) (by decide +kernel)) rfl, zw_of (List.mem_of_getElem? (i := 6) (by decide +kernel)) rfl⟩
theorem ml_X9_20 : zML RX9 20 mi_X1_init := zw_of (List.mem_of_getElem? (i := 126) (by decide +kernel)) rfl
theorem oi_X1_5 : zOI RX1 5 := zw_of (List.mem_of_getElem? (i := 129) (by decide +kernel)) rfl
theorem ml_X1_18 : zML RX1 18 mi_X1_clear := zw_of (List.mem_of_getElem? (i := 130) (by decide +kernel)) rfl
theorem ml_X1_21 : zML RX1 21 mi_X1_begin := zw_of (List.mem_of_getElem? (i := 134) (by decide +kernel)) rfl
theorem ml_X1_25 : zML RX1 25 mi_X8_clear := zw_of (List.mem_of_getElem? (i := 138) (by decide +kernel)) rfl
theorem ml_X1_30 : zML RX1 30 mi_X8_put := zw_of (List.mem_of_getElem? (i := 141) (by decide +kernel)) rfl
theorem nc_X9_25 : zNC RX9 25 2 := ⟨(RX2, TX2, 3), rfl, zw_of (List.mem_of_getElem? (i := 151) (by decide +kernel)) rfl, zw_of (List.mem_of_getElem? (i := 152) (by decide +kernel)) rfl, zw_of (List.mem_of_getElem? (i := 8) (by decide +kernel)) rfl⟩
theorem ml_X9_27 : zML RX9 27 mi_X2_init := zw_of (List.mem_of_getElem? (i := 153) (by decide +kernel)) rfl
theorem oi_X2_3 : zOI RX2 3 := zw_of (List.mem_of_getElem? (i := 156) (by decide +kernel)) rfl
theorem nc_X10_40 : zNC RX10 40 5 := ⟨(RX5, TX5, 7), rfl, zw_of (List.mem_of_getElem? (i := 192) (by decide +kernel)) rfl, zw_of (List.mem_of_getElem? (i := 193) (by decide +kernel)) rfl, zw_of (List.mem_of_getElem? (i := 9) (by decide +kernel)) rfl⟩
theorem oi_X5_3 : zOI RX5 3 := zw_of (List.mem_of_getElem? (i := 197) (by decide +kernel)) rfl
theorem nc_X10_47 : zNC RX10 47 1 := ⟨(RX1, TX1, 2), rfl, zw_of (List.mem_of_getElem? (i := 225) (by decide +kernel)) rfl, zw_of (List.mem_of_getElem? (i := 125) (by decide +kernel)) rfl, zw_of (List.mem_of_getElem? (i := 6) (by decide +kernel)) rfl⟩
theorem ml_X10_49 : zML RX10 49 mi_X1_init := zw_of (List.mem_of_getElem? (i := 226) (by decide +kernel)) rfl
theorem nc_X10_54 : zNC RX10 54 0 := ⟨(RX0, TX0, 4), rfl, zw_of (List.mem_of_getElem? (i := 227) (by decide +kernel)) rfl, zw_of (List.mem_of_getElem? (i := 228) (by decide +kernel)) rfl, zw_of (List.mem_of_getElem? (i := 10) (by decide +kernel)) rfl⟩
theorem ml_X10_60 : zML RX10 60 mi_X0_init := zw_of (List.mem_of_getElem? (i := 229) (by decide +kernel)) rfl
theorem oi_X0_3 : zOI RX0 3 := zw_of (List.mem_of_getElem? (i := 232) (by decide +kernel)) rfl
theorem nc_X10_67 : zNC RX10 67 7 := ⟨(RX7, TX7, 8), rfl, zw_of (List.mem_of_getElem? (i := 247) (by decide +kernel)) rfl, zw_of (List.mem_of_getElem? (i := 248) (by decide +kernel)) rfl, zw_of (List.mem_of_getElem? (i := 11) (by decide +kernel)) rfl⟩
theorem ml_X10_69 : zML RX10 69 mi_X7_init := zw_of (List.mem_of_getElem? (i := 249) (by decide +kernel)) rfl
theorem oi_X7_3 : zOI RX7 3 := zw_of (List.mem_of_getElem? (i := 252) (by decide +kernel)) rfl
theorem ml_L_13 : zML RL 13 mi_X10_feed := zw_of (List.mem_of_getElem? (i := 311) (by decide +kernel)) rfl
theorem kc_X10_80 : zKI RX10 80 (-1000000002) := zw_of (List.mem_of_getElem? (i := 315) (by decide +kernel)) rfl
theorem kc_X10_84 : zKI RX10 84 (-1000000004) := zw_of (List.mem_of_getElem? (i := 316) (by decide +kernel)) rfl
theorem ml_X10_85 : zML RX10 85 mi_X6_append := zw_of (List.mem_of_getElem? (i := 317) (by decide +kernel)) rfl
theorem ml_X6_26 : zML RX6 26 mi_X8_put := zw_of (List.mem_of_getElem? (i := 321) (by decide +kernel)) rfl
theorem ml_L_18 : zML RL 18 mi_X10_meadow := zw_of (List.mem_of_getElem? (i := 322) (by decide +kernel)) rfl
theorem ml_X10_89 : zML RX10 89 mi_X6_readAll := zw_of (List.mem_of_getElem? (i := 326) (by decide +kernel)) rfl
theorem ml_X6_32 : zML RX6 32 mi_X4_clear := zw_of (List.mem_of_getElem? (i := 330) (by decide +kernel)) rfl
theorem ml_X4_49 : zML RX4 49 mi_X8_clear := zw_of (List.mem_of_getElem? (i := 334) (by decide +kernel)) rfl
theorem ml_X6_44 : zML RX6 44 mi_X6_skipBlanks := zw_of (List.mem_of_getElem? (i := 335) (by decide +kernel)) rfl
theorem ml_X6_47 : zML RX6 47 mi_X6_letter := zw_of (List.mem_of_getElem? (i := 339) (by decide +kernel)) rfl
theorem ml_X6_70 : zML RX6 70 mi_X8_at := zw_of (List.mem_of_getElem? (i := 343) (by decide +kernel)) rfl
theorem ml_X6_51 : zML RX6 51 mi_X6_readPerson := zw_of (List.mem_of_getElem? (i := 346) (by decide +kernel)) rfl
theorem ml_X6_60 : zML RX6 60 mi_X6_mark := zw_of (List.mem_of_getElem? (i := 350) (by decide +kernel)) rfl
theorem ml_X6_77 : zML RX6 77 mi_X6_readNumber := zw_of (List.mem_of_getElem? (i := 358) (by decide +kernel)) rfl
theorem ml_X6_84 : zML RX6 84 mi_X6_readEnd := zw_of (List.mem_of_getElem? (i := 362) (by decide +kernel)) rfl
theorem ml_X6_54 : zML RX6 54 mi_X6_readPhrase := zw_of (List.mem_of_getElem? (i := 366) (by decide +kernel)) rfl
theorem ml_X6_99 : zML RX6 99 mi_X4_addPhrase := zw_of (List.mem_of_getElem? (i := 374) (by decide +kernel)) rfl
theorem ml_X4_37 : zML RX4 37 mi_X4_part := zw_of (List.mem_of_getElem? (i := 378) (by decide +kernel)) rfl
theorem ml_X4_31 : zML RX4 31 mi_X8_at := zw_of (List.mem_of_getElem? (i := 382) (by decide +kernel)) rfl
theorem ml_X4_41 : zML RX4 41 mi_X4_deedBit := zw_of (List.mem_of_getElem? (i := 383) (by decide +kernel)) rfl
theorem ml_X4_45 : zML RX4 45 mi_X8_put := zw_of (List.mem_of_getElem? (i := 386) (by decide +kernel)) rfl
theorem ml_X6_57 : zML RX6 57 mi_X6_readDeed := zw_of (List.mem_of_getElem? (i := 387) (by decide +kernel)) rfl
theorem ml_X10_97 : zML RX10 97 mi_X4_copyFrom := zw_of (List.mem_of_getElem? (i := 391) (by decide +kernel)) rfl
theorem ml_X4_53 : zML RX4 53 mi_X8_copy := zw_of (List.mem_of_getElem? (i := 395) (by decide +kernel)) rfl
theorem ml_X8_7 : zML RX8 7 mi_J_min := zw_of (List.mem_of_getElem? (i := 398) (by decide +kernel)) rfl
theorem ac_X8_13 : Cond.methodLink RX8 13 arraycopyName ∈ zTW := zw_of (List.mem_of_getElem? (i := 401) (by decide +kernel)) rfl
theorem ml_X10_100 : zML RX10 100 mi_X9_beginAnew := zw_of (List.mem_of_getElem? (i := 404) (by decide +kernel)) rfl
theorem ml_X9_34 : zML RX9 34 mi_X2_begin := zw_of (List.mem_of_getElem? (i := 408) (by decide +kernel)) rfl
theorem ml_X2_27 : zML RX2 27 mi_X8_copy := zw_of (List.mem_of_getElem? (i := 412) (by decide +kernel)) rfl
theorem ml_X2_33 : zML RX2 33 mi_X4_trait := zw_of (List.mem_of_getElem? (i := 413) (by decide +kernel)) rfl
theorem ml_X9_37 : zML RX9 37 mi_X3_clear := zw_of (List.mem_of_getElem? (i := 417) (by decide +kernel)) rfl
theorem ml_X3_27 : zML RX3 27 mi_X8_clear := zw_of (List.mem_of_getElem? (i := 421) (by decide +kernel)) rfl
theorem ml_X9_40 : zML RX9 40 mi_X1_clear := zw_of (List.mem_of_getElem? (i := 422) (by decide +kernel)) rfl
theorem ml_X10_103 : zML RX10 103 mi_X5_clearAll := zw_of (List.mem_of_getElem? (i := 423) (by decide +kernel)) rfl
theorem ml_L_23 : zML RL 23 mi_X10_fault := zw_of (List.mem_of_getElem? (i := 427) (by decide +kernel)) rfl
theorem ml_L_27 : zML RL 27 mi_X10_told := zw_of (List.mem_of_getElem? (i := 431) (by decide +kernel)) rfl
theorem ml_X10_115 : zML RX10 115 mi_X1_person := zw_of (List.mem_of_getElem? (i := 435) (by decide +kernel)) rfl
theorem ml_X1_38 : zML RX1 38 mi_X8_at := zw_of (List.mem_of_getElem? (i := 439) (by decide +kernel)) rfl
theorem ml_X10_118 : zML RX10 118 mi_X1_cell := zw_of (List.mem_of_getElem? (i := 440) (by decide +kernel)) rfl
theorem ml_X10_121 : zML RX10 121 mi_X1_goesOn := zw_of (List.mem_of_getElem? (i := 444) (by decide +kernel)) rfl
theorem ml_X1_46 : zML RX1 46 mi_X1_exists := zw_of (List.mem_of_getElem? (i := 448) (by decide +kernel)) rfl
theorem ml_X1_42 : zML RX1 42 mi_X1_cell := zw_of (List.mem_of_getElem? (i := 452) (by decide +kernel)) rfl
theorem ml_X10_125 : zML RX10 125 mi_X1_side := zw_of (List.mem_of_getElem? (i := 453) (by decide +kernel)) rfl
theorem ml_L_31 : zML RL 31 mi_X10_duellist := zw_of (List.mem_of_getElem? (i := 457) (by decide +kernel)) rfl
theorem ml_X10_137 : zML RX10 137 mi_X4_hasPerson := zw_of (List.mem_of_getElem? (i := 461) (by decide +kernel)) rfl
theorem kc_X10_141 : zKI RX10 141 (-1000000001) := zw_of (List.mem_of_getElem? (i := 465) (by decide +kernel)) rfl
theorem ml_X10_142 : zML RX10 142 mi_X4_trait := zw_of (List.mem_of_getElem? (i := 466) (by decide +kernel)) rfl
theorem ml_X10_146 : zML RX10 146 mi_X2_vanityOf := zw_of (List.mem_of_getElem? (i := 467) (by decide +kernel)) rfl
theorem ml_X2_37 : zML RX2 37 mi_X8_at := zw_of (List.mem_of_getElem? (i := 471) (by decide +kernel)) rfl
theorem ml_X10_151 : zML RX10 151 mi_X2_deedsOf := zw_of (List.mem_of_getElem? (i := 472) (by decide +kernel)) rfl
theorem ml_X10_158 : zML RX10 158 mi_X3_pointsOf := zw_of (List.mem_of_getElem? (i := 476) (by decide +kernel)) rfl
theorem ml_X3_37 : zML RX3 37 mi_X8_at := zw_of (List.mem_of_getElem? (i := 480) (by decide +kernel)) rfl
theorem ml_X10_163 : zML RX10 163 mi_X10_inDuel := zw_of (List.mem_of_getElem? (i := 481) (by decide +kernel)) rfl
theorem ml_X10_166 : zML RX10 166 mi_X1_sideOf := zw_of (List.mem_of_getElem? (i := 485) (by decide +kernel)) rfl
theorem ml_X1_50 : zML RX1 50 mi_X1_person := zw_of (List.mem_of_getElem? (i := 489) (by decide +kernel)) rfl
theorem ml_X10_169 : zML RX10 169 mi_X1_toldTo := zw_of (List.mem_of_getElem? (i := 490) (by decide +kernel)) rfl
theorem ml_L_36 : zML RL 36 mi_X10_compliment := zw_of (List.mem_of_getElem? (i := 494) (by decide +kernel)) rfl
theorem ml_X10_172 : zML RX10 172 mi_X4_hasPhrase := zw_of (List.mem_of_getElem? (i := 498) (by decide +kernel)) rfl
theorem ml_X10_175 : zML RX10 175 mi_X4_part := zw_of (List.mem_of_getElem? (i := 502) (by decide +kernel)) rfl
theorem ml_L_40 : zML RL 40 mi_X10_truth := zw_of (List.mem_of_getElem? (i := 503) (by decide +kernel)) rfl
theorem ml_X10_178 : zML RX10 178 mi_X2_truthOf := zw_of (List.mem_of_getElem? (i := 507) (by decide +kernel)) rfl
theorem ml_L_44 : zML RL 44 mi_X10_effect := zw_of (List.mem_of_getElem? (i := 511) (by decide +kernel)) rfl
theorem ml_X10_181 : zML RX10 181 mi_X9_effectNow := zw_of (List.mem_of_getElem? (i := 515) (by decide +kernel)) rfl
theorem ml_X9_55 : zML RX9 55 mi_X1_sideOf := zw_of (List.mem_of_getElem? (i := 519) (by decide +kernel)) rfl
theorem ml_X9_65 : zML RX9 65 mi_X4_part := zw_of (List.mem_of_getElem? (i := 520) (by decide +kernel)) rfl
theorem ml_X9_69 : zML RX9 69 mi_X1_toldTo := zw_of (List.mem_of_getElem? (i := 521) (by decide +kernel)) rfl
theorem ml_X9_72 : zML RX9 72 mi_X2_effectOn := zw_of (List.mem_of_getElem? (i := 522) (by decide +kernel)) rfl
theorem ml_X2_44 : zML RX2 44 mi_X4_part := zw_of (List.mem_of_getElem? (i := 526) (by decide +kernel)) rfl
theorem ml_X2_47 : zML RX2 47 mi_X2_vanityOf := zw_of (List.mem_of_getElem? (i := 527) (by decide +kernel)) rfl
theorem ml_X2_50 : zML RX2 50 mi_X2_effectBy := zw_of (List.mem_of_getElem? (i := 528) (by decide +kernel)) rfl
theorem ml_X2_54 : zML RX2 54 mi_X2_truthOf := zw_of (List.mem_of_getElem? (i := 532) (by decide +kernel)) rfl
theorem ml_X2_57 : zML RX2 57 mi_X2_effectOf := zw_of (List.mem_of_getElem? (i := 533) (by decide +kernel)) rfl
theorem ml_L_48 : zML RL 48 mi_X10_duel := zw_of (List.mem_of_getElem? (i := 536) (by decide +kernel)) rfl
theorem ml_X10_184 : zML RX10 184 mi_X10_areTwo := zw_of (List.mem_of_getElem? (i := 540) (by decide +kernel)) rfl
theorem ml_X10_188 : zML RX10 188 mi_X1_begin := zw_of (List.mem_of_getElem? (i := 544) (by decide +kernel)) rfl
theorem ml_L_52 : zML RL 52 mi_X10_say := zw_of (List.mem_of_getElem? (i := 545) (by decide +kernel)) rfl
theorem ml_X10_192 : zML RX10 192 mi_X1_allows := zw_of (List.mem_of_getElem? (i := 549) (by decide +kernel)) rfl
theorem ml_X1_57 : zML RX1 57 mi_X1_goesOn := zw_of (List.mem_of_getElem? (i := 553) (by decide +kernel)) rfl
theorem ml_X1_60 : zML RX1 60 mi_X1_side := zw_of (List.mem_of_getElem? (i := 554) (by decide +kernel)) rfl
theorem ml_X1_53 : zML RX1 53 mi_X1_isUnsaid := zw_of (List.mem_of_getElem? (i := 555) (by decide +kernel)) rfl
theorem kc_X10_195 : zKI RX10 195 (-1000000003) := zw_of (List.mem_of_getElem? (i := 559) (by decide +kernel)) rfl
theorem ml_X10_196 : zML RX10 196 mi_X9_playTurn := zw_of (List.mem_of_getElem? (i := 560) (by decide +kernel)) rfl
theorem ml_X9_76 : zML RX9 76 mi_X1_play := zw_of (List.mem_of_getElem? (i := 564) (by decide +kernel)) rfl
theorem ml_X1_64 : zML RX1 64 mi_X1_remember := zw_of (List.mem_of_getElem? (i := 568) (by decide +kernel)) rfl
theorem ac_X1_94 : Cond.methodLink RX1 94 arraycopyName ∈ zTW := zw_of (List.mem_of_getElem? (i := 572) (by decide +kernel)) rfl
theorem ml_X1_75 : zML RX1 75 mi_X4_trait := zw_of (List.mem_of_getElem? (i := 573) (by decide +kernel)) rfl
theorem ml_X1_79 : zML RX1 79 mi_J_max := zw_of (List.mem_of_getElem? (i := 574) (by decide +kernel)) rfl
theorem ml_X1_84 : zML RX1 84 mi_X1_passOnce := zw_of (List.mem_of_getElem? (i := 577) (by decide +kernel)) rfl
theorem ml_X1_87 : zML RX1 87 mi_X8_add := zw_of (List.mem_of_getElem? (i := 581) (by decide +kernel)) rfl
theorem ml_X1_90 : zML RX1 90 mi_X1_speak := zw_of (List.mem_of_getElem? (i := 584) (by decide +kernel)) rfl
theorem ml_X1_100 : zML RX1 100 mi_X4_part := zw_of (List.mem_of_getElem? (i := 588) (by decide +kernel)) rfl
theorem ml_X1_103 : zML RX1 103 mi_X2_truthOf := zw_of (List.mem_of_getElem? (i := 589) (by decide +kernel)) rfl
theorem ml_X1_106 : zML RX1 106 mi_X2_vanityOf := zw_of (List.mem_of_getElem? (i := 590) (by decide +kernel)) rfl
theorem ml_X1_109 : zML RX1 109 mi_X1_toldTo := zw_of (List.mem_of_getElem? (i := 591) (by decide +kernel)) rfl
theorem ml_X1_112 : zML RX1 112 mi_X2_effectOf := zw_of (List.mem_of_getElem? (i := 592) (by decide +kernel)) rfl
theorem ml_X9_80 : zML RX9 80 mi_X1_cell := zw_of (List.mem_of_getElem? (i := 593) (by decide +kernel)) rfl
theorem ml_X9_83 : zML RX9 83 mi_X1_person := zw_of (List.mem_of_getElem? (i := 594) (by decide +kernel)) rfl
theorem ml_X9_86 : zML RX9 86 mi_X3_count := zw_of (List.mem_of_getElem? (i := 595) (by decide +kernel)) rfl
theorem ml_X3_59 : zML RX3 59 mi_X3_scoreOfFirst := zw_of (List.mem_of_getElem? (i := 599) (by decide +kernel)) rfl
theorem ml_X3_41 : zML RX3 41 mi_X3_pairOf := zw_of (List.mem_of_getElem? (i := 602) (by decide +kernel)) rfl
theorem ml_X3_48 : zML RX3 48 mi_J_min := zw_of (List.mem_of_getElem? (i := 607) (by decide +kernel)) rfl
theorem ml_X3_56 : zML RX3 56 mi_J_max := zw_of (List.mem_of_getElem? (i := 610) (by decide +kernel)) rfl
theorem ml_X3_63 : zML RX3 63 mi_X8_put := zw_of (List.mem_of_getElem? (i := 611) (by decide +kernel)) rfl
theorem ml_X3_67 : zML RX3 67 mi_X8_add := zw_of (List.mem_of_getElem? (i := 612) (by decide +kernel)) rfl
theorem ml_L_56 : zML RL 56 mi_X10_pass := zw_of (List.mem_of_getElem? (i := 613) (by decide +kernel)) rfl
theorem ml_L_60 : zML RL 60 mi_X10_sorr := zw_of (List.mem_of_getElem? (i := 617) (by decide +kernel)) rfl
theorem ml_L_64 : zML RL 64 mi_X10_undo := zw_of (List.mem_of_getElem? (i := 621) (by decide +kernel)) rfl
theorem ml_X10_199 : zML RX10 199 mi_X1_exists := zw_of (List.mem_of_getElem? (i := 625) (by decide +kernel)) rfl
theorem ml_X10_202 : zML RX10 202 mi_X9_takeBack := zw_of (List.mem_of_getElem? (i := 626) (by decide +kernel)) rfl
theorem ml_X9_90 : zML RX9 90 mi_X3_uncount := zw_of (List.mem_of_getElem? (i := 630) (by decide +kernel)) rfl
theorem ml_X9_93 : zML RX9 93 mi_X1_takeBack := zw_of (List.mem_of_getElem? (i := 634) (by decide +kernel)) rfl
theorem ml_L_68 : zML RL 68 mi_X10_act := zw_of (List.mem_of_getElem? (i := 638) (by decide +kernel)) rfl
theorem ml_X10_210 : zML RX10 210 mi_X8_put := zw_of (List.mem_of_getElem? (i := 642) (by decide +kernel)) rfl
theorem ml_L_72 : zML RL 72 mi_X10_vanity := zw_of (List.mem_of_getElem? (i := 643) (by decide +kernel)) rfl
theorem ml_X10_216 : zML RX10 216 mi_X10_isTopic := zw_of (List.mem_of_getElem? (i := 647) (by decide +kernel)) rfl
theorem ml_L_77 : zML RL 77 mi_X10_drift := zw_of (List.mem_of_getElem? (i := 650) (by decide +kernel)) rfl
theorem ml_X10_222 : zML RX10 222 mi_X9_drawTurn := zw_of (List.mem_of_getElem? (i := 654) (by decide +kernel)) rfl
theorem ml_X9_100 : zML RX9 100 mi_X1_unsaidCount := zw_of (List.mem_of_getElem? (i := 658) (by decide +kernel)) rfl
theorem ml_X9_103 : zML RX9 103 mi_X9_draw := zw_of (List.mem_of_getElem? (i := 662) (by decide +kernel)) rfl
theorem kl_X9_109 : zKL RX9 109 (1103515245) := zw_of (List.mem_of_getElem? (i := 666) (by decide +kernel)) rfl
theorem kl_X9_111 : zKL RX9 111 (12345) := zw_of (List.mem_of_getElem? (i := 667) (by decide +kernel)) rfl
theorem kl_X9_113 : zKL RX9 113 (2147483648) := zw_of (List.mem_of_getElem? (i := 668) (by decide +kernel)) rfl
theorem kc_X9_115 : zKI RX9 115 (65536) := zw_of (List.mem_of_getElem? (i := 669) (by decide +kernel)) rfl
theorem ml_X9_106 : zML RX9 106 mi_X1_unsaidAt := zw_of (List.mem_of_getElem? (i := 670) (by decide +kernel)) rfl
theorem ml_L_81 : zML RL 81 mi_X10_best := zw_of (List.mem_of_getElem? (i := 674) (by decide +kernel)) rfl
theorem ml_X10_225 : zML RX10 225 mi_X1_unsaidCount := zw_of (List.mem_of_getElem? (i := 678) (by decide +kernel)) rfl
theorem ml_X10_228 : zML RX10 228 mi_X1_copyFrom := zw_of (List.mem_of_getElem? (i := 679) (by decide +kernel)) rfl
theorem ml_X1_34 : zML RX1 34 mi_X8_copy := zw_of (List.mem_of_getElem? (i := 683) (by decide +kernel)) rfl
theorem ml_X10_231 : zML RX10 231 mi_X0_find := zw_of (List.mem_of_getElem? (i := 684) (by decide +kernel)) rfl
theorem ml_X0_30 : zML RX0 30 mi_X0_valueOf := zw_of (List.mem_of_getElem? (i := 688) (by decide +kernel)) rfl
theorem ml_X0_34 : zML RX0 34 mi_X1_goesOn := zw_of (List.mem_of_getElem? (i := 691) (by decide +kernel)) rfl
theorem ml_X0_40 : zML RX0 40 mi_X0_valueOfEnd := zw_of (List.mem_of_getElem? (i := 692) (by decide +kernel)) rfl
theorem ml_X0_61 : zML RX0 61 mi_X1_cell := zw_of (List.mem_of_getElem? (i := 695) (by decide +kernel)) rfl
theorem ml_X0_65 : zML RX0 65 mi_X1_side := zw_of (List.mem_of_getElem? (i := 696) (by decide +kernel)) rfl
theorem ml_X0_44 : zML RX0 44 mi_X4_hasPhrase := zw_of (List.mem_of_getElem? (i := 697) (by decide +kernel)) rfl
theorem ml_X0_50 : zML RX0 50 mi_X1_isUnsaid := zw_of (List.mem_of_getElem? (i := 698) (by decide +kernel)) rfl
theorem ml_X0_53 : zML RX0 53 mi_X1_play := zw_of (List.mem_of_getElem? (i := 699) (by decide +kernel)) rfl
theorem ml_X0_57 : zML RX0 57 mi_X1_takeBack := zw_of (List.mem_of_getElem? (i := 700) (by decide +kernel)) rfl
theorem ml_L_85 : zML RL 85 mi_X10_greatest := zw_of (List.mem_of_getElem? (i := 701) (by decide +kernel)) rfl
theorem ml_X10_237 : zML RX10 237 mi_X1_isUnsaid := zw_of (List.mem_of_getElem? (i := 705) (by decide +kernel)) rfl
theorem ml_L_89 : zML RL 89 mi_X10_harden := zw_of (List.mem_of_getElem? (i := 706) (by decide +kernel)) rfl
theorem ml_X10_240 : zML RX10 240 mi_X2_hardenedBy := zw_of (List.mem_of_getElem? (i := 710) (by decide +kernel)) rfl
theorem ml_X2_65 : zML RX2 65 mi_J_max := zw_of (List.mem_of_getElem? (i := 714) (by decide +kernel)) rfl
theorem ml_L_94 : zML RL 94 mi_X10_deeds := zw_of (List.mem_of_getElem? (i := 715) (by decide +kernel)) rfl
theorem ml_X10_244 : zML RX10 244 mi_X2_fewestDeeds := zw_of (List.mem_of_getElem? (i := 719) (by decide +kernel)) rfl
theorem ml_X2_70 : zML RX2 70 mi_J_bitCount := zw_of (List.mem_of_getElem? (i := 723) (by decide +kernel)) rfl
theorem kc_J_265 : zKI "java/lang/Integer" 265 (1431655765) := zw_of (List.mem_of_getElem? (i := 726) (by decide +kernel)) rfl
theorem kc_J_266 : zKI "java/lang/Integer" 266 (858993459) := zw_of (List.mem_of_getElem? (i := 727) (by decide +kernel)) rfl
theorem kc_J_267 : zKI "java/lang/Integer" 267 (252645135) := zw_of (List.mem_of_getElem? (i := 728) (by decide +kernel)) rfl
theorem ml_X2_76 : zML RX2 76 mi_X2_deedsOf := zw_of (List.mem_of_getElem? (i := 729) (by decide +kernel)) rfl
theorem ml_X2_79 : zML RX2 79 mi_X2_howManyTrue := zw_of (List.mem_of_getElem? (i := 730) (by decide +kernel)) rfl
theorem ml_X10_247 : zML RX10 247 mi_J_bitCount := zw_of (List.mem_of_getElem? (i := 734) (by decide +kernel)) rfl
theorem ml_L_98 : zML RL 98 mi_X10_league := zw_of (List.mem_of_getElem? (i := 735) (by decide +kernel)) rfl
theorem ml_X10_252 : zML RX10 252 mi_X3_possibleWinners := zw_of (List.mem_of_getElem? (i := 739) (by decide +kernel)) rfl
theorem ml_X3_70 : zML RX3 70 mi_X3_sumCounted := zw_of (List.mem_of_getElem? (i := 743) (by decide +kernel)) rfl
theorem ml_X3_74 : zML RX3 74 mi_X3_canSettle := zw_of (List.mem_of_getElem? (i := 747) (by decide +kernel)) rfl
theorem ml_X3_78 : zML RX3 78 mi_X3_hasMost := zw_of (List.mem_of_getElem? (i := 750) (by decide +kernel)) rfl
theorem ml_L_102 : zML RL 102 mi_X10_met := zw_of (List.mem_of_getElem? (i := 753) (by decide +kernel)) rfl
theorem ml_X10_255 : zML RX10 255 mi_X3_meetingsOf := zw_of (List.mem_of_getElem? (i := 757) (by decide +kernel)) rfl
theorem ml_L_106 : zML RL 106 mi_X10_shared := zw_of (List.mem_of_getElem? (i := 761) (by decide +kernel)) rfl
theorem ml_X10_258 : zML RX10 258 mi_X2_effectOn := zw_of (List.mem_of_getElem? (i := 765) (by decide +kernel)) rfl
theorem ml_L_110 : zML RL 110 mi_X10_powder := zw_of (List.mem_of_getElem? (i := 766) (by decide +kernel)) rfl
theorem ml_L_114 : zML RL 114 mi_X10_warm := zw_of (List.mem_of_getElem? (i := 770) (by decide +kernel)) rfl
theorem ml_X10_261 : zML RX10 261 mi_X5_addWarmed := zw_of (List.mem_of_getElem? (i := 774) (by decide +kernel)) rfl
theorem ml_X5_34 : zML RX5 34 mi_X8_put := zw_of (List.mem_of_getElem? (i := 778) (by decide +kernel)) rfl
theorem ml_L_118 : zML RL 118 mi_X10_vain := zw_of (List.mem_of_getElem? (i := 779) (by decide +kernel)) rfl
theorem ml_X10_265 : zML RX10 265 mi_X5_fittingVanities := zw_of (List.mem_of_getElem? (i := 783) (by decide +kernel)) rfl
theorem ml_X5_44 : zML RX5 44 mi_X5_fitsAll := zw_of (List.mem_of_getElem? (i := 787) (by decide +kernel)) rfl
theorem ml_X5_48 : zML RX5 48 mi_X5_mark := zw_of (List.mem_of_getElem? (i := 791) (by decide +kernel)) rfl
theorem ml_X5_40 : zML RX5 40 mi_X8_at := zw_of (List.mem_of_getElem? (i := 795) (by decide +kernel)) rfl
theorem ml_X5_60 : zML RX5 60 mi_X4_part := zw_of (List.mem_of_getElem? (i := 796) (by decide +kernel)) rfl
theorem ml_X5_63 : zML RX5 63 mi_X2_effectBy := zw_of (List.mem_of_getElem? (i := 797) (by decide +kernel)) rfl
theorem ml_L_122 : zML RL 122 mi_X10_probe := zw_of (List.mem_of_getElem? (i := 798) (by decide +kernel)) rfl
theorem ml_X10_269 : zML RX10 269 mi_X5_partingPhrase := zw_of (List.mem_of_getElem? (i := 802) (by decide +kernel)) rfl
theorem ml_X5_67 : zML RX5 67 mi_X5_fittingVanities := zw_of (List.mem_of_getElem? (i := 806) (by decide +kernel)) rfl
theorem ml_X5_71 : zML RX5 71 mi_J_bitCount := zw_of (List.mem_of_getElem? (i := 807) (by decide +kernel)) rfl
theorem ml_X5_80 : zML RX5 80 mi_X5_greatestPart := zw_of (List.mem_of_getElem? (i := 808) (by decide +kernel)) rfl
theorem ml_X5_89 : zML RX5 89 mi_X8_clear := zw_of (List.mem_of_getElem? (i := 812) (by decide +kernel)) rfl
theorem ml_X5_93 : zML RX5 93 mi_X8_add := zw_of (List.mem_of_getElem? (i := 813) (by decide +kernel)) rfl
theorem ml_X5_96 : zML RX5 96 mi_J_max := zw_of (List.mem_of_getElem? (i := 814) (by decide +kernel)) rfl
theorem ml_X5_84 : zML RX5 84 mi_J_min := zw_of (List.mem_of_getElem? (i := 815) (by decide +kernel)) rfl
theorem ml_L_126 : zML RL 126 mi_X10_cheek := zw_of (List.mem_of_getElem? (i := 816) (by decide +kernel)) rfl
theorem ml_X10_272 : zML RX10 272 mi_X5_addCheek := zw_of (List.mem_of_getElem? (i := 820) (by decide +kernel)) rfl
theorem ml_L_130 : zML RL 130 mi_X10_said := zw_of (List.mem_of_getElem? (i := 824) (by decide +kernel)) rfl
theorem ml_X10_275 : zML RX10 275 mi_X7_findAll := zw_of (List.mem_of_getElem? (i := 828) (by decide +kernel)) rfl
theorem ml_X7_31 : zML RX7 31 mi_X1_side := zw_of (List.mem_of_getElem? (i := 832) (by decide +kernel)) rfl
theorem ml_X7_37 : zML RX7 37 mi_X1_cell := zw_of (List.mem_of_getElem? (i := 833) (by decide +kernel)) rfl
theorem ml_X7_41 : zML RX7 41 mi_X1_person := zw_of (List.mem_of_getElem? (i := 834) (by decide +kernel)) rfl
theorem ml_X7_47 : zML RX7 47 mi_X1_toldTo := zw_of (List.mem_of_getElem? (i := 835) (by decide +kernel)) rfl
theorem ml_X7_51 : zML RX7 51 mi_X8_put := zw_of (List.mem_of_getElem? (i := 836) (by decide +kernel)) rfl
theorem ml_X7_63 : zML RX7 63 mi_X7_extend := zw_of (List.mem_of_getElem? (i := 837) (by decide +kernel)) rfl
theorem ml_X7_74 : zML RX7 74 mi_X7_addRow := zw_of (List.mem_of_getElem? (i := 840) (by decide +kernel)) rfl
theorem ml_X7_113 : zML RX7 113 mi_X8_copy := zw_of (List.mem_of_getElem? (i := 844) (by decide +kernel)) rfl
theorem ml_X7_89 : zML RX7 89 mi_X4_part := zw_of (List.mem_of_getElem? (i := 845) (by decide +kernel)) rfl
theorem ml_X7_70 : zML RX7 70 mi_X8_at := zw_of (List.mem_of_getElem? (i := 846) (by decide +kernel)) rfl
theorem ml_X7_92 : zML RX7 92 mi_X2_effectOn := zw_of (List.mem_of_getElem? (i := 847) (by decide +kernel)) rfl
theorem ml_X7_96 : zML RX7 96 mi_X2_truthOf := zw_of (List.mem_of_getElem? (i := 848) (by decide +kernel)) rfl
theorem ml_X7_99 : zML RX7 99 mi_X5_cheekAt := zw_of (List.mem_of_getElem? (i := 849) (by decide +kernel)) rfl
theorem ml_X7_102 : zML RX7 102 mi_X4_trait := zw_of (List.mem_of_getElem? (i := 853) (by decide +kernel)) rfl
theorem ml_X7_105 : zML RX7 105 mi_X8_add := zw_of (List.mem_of_getElem? (i := 854) (by decide +kernel)) rfl
theorem ml_X7_108 : zML RX7 108 mi_J_max := zw_of (List.mem_of_getElem? (i := 855) (by decide +kernel)) rfl
theorem ml_X10_281 : zML RX10 281 mi_X7_first := zw_of (List.mem_of_getElem? (i := 856) (by decide +kernel)) rfl
theorem ml_L_134 : zML RL 134 mi_X10_surely := zw_of (List.mem_of_getElem? (i := 860) (by decide +kernel)) rfl
theorem ml_L_138 : zML RL 138 mi_X10_write := zw_of (List.mem_of_getElem? (i := 864) (by decide +kernel)) rfl
theorem ml_X10_287 : zML RX10 287 mi_X5_addTurn := zw_of (List.mem_of_getElem? (i := 868) (by decide +kernel)) rfl
theorem ml_L_142 : zML RL 142 mi_X10_judge := zw_of (List.mem_of_getElem? (i := 872) (by decide +kernel)) rfl
theorem ml_X10_290 : zML RX10 290 mi_X5_playBook := zw_of (List.mem_of_getElem? (i := 876) (by decide +kernel)) rfl
theorem ml_X5_99 : zML RX5 99 mi_X1_allows := zw_of (List.mem_of_getElem? (i := 880) (by decide +kernel)) rfl
theorem ml_X5_105 : zML RX5 105 mi_X1_play := zw_of (List.mem_of_getElem? (i := 881) (by decide +kernel)) rfl
theorem ml_L_146 : zML RL 146 mi_X10_tear := zw_of (List.mem_of_getElem? (i := 882) (by decide +kernel)) rfl
theorem ml_L_150 : zML RL 150 mi_X10_seed := zw_of (List.mem_of_getElem? (i := 886) (by decide +kernel)) rfl
theorem ml_L_154 : zML RL 154 mi_X10_keep := zw_of (List.mem_of_getElem? (i := 890) (by decide +kernel)) rfl
theorem ml_X10_297 : zML RX10 297 mi_X10_isImage := zw_of (List.mem_of_getElem? (i := 894) (by decide +kernel)) rfl
theorem ml_X10_300 : zML RX10 300 mi_X9_copyFrom := zw_of (List.mem_of_getElem? (i := 898) (by decide +kernel)) rfl
theorem ml_X9_41 : zML RX9 41 mi_X2_copyFrom := zw_of (List.mem_of_getElem? (i := 902) (by decide +kernel)) rfl
theorem ml_X9_45 : zML RX9 45 mi_X3_copyFrom := zw_of (List.mem_of_getElem? (i := 906) (by decide +kernel)) rfl
theorem ml_X3_33 : zML RX3 33 mi_X8_copy := zw_of (List.mem_of_getElem? (i := 910) (by decide +kernel)) rfl
theorem ml_X9_48 : zML RX9 48 mi_X1_copyFrom := zw_of (List.mem_of_getElem? (i := 911) (by decide +kernel)) rfl
theorem ml_L_158 : zML RL 158 mi_X10_goBack := zw_of (List.mem_of_getElem? (i := 912) (by decide +kernel)) rfl
theorem nc_L_10 : zNC RL 10 10 := ⟨(RX11, TX11, 35), rfl, zw_of (List.mem_of_getElem? (i := 916) (by decide +kernel)) rfl, zw_of (List.mem_of_getElem? (i := 917) (by decide +kernel)) rfl, zw_of (List.mem_of_getElem? (i := 12) (by decide +kernel)) rfl⟩
theorem ml_L_12 : zML RL 12 mi_X11_init := zw_of (List.mem_of_getElem? (i := 918) (by decide +kernel)) rfl
theorem oi_X11_1 : zOI RX11 1 := zw_of (List.mem_of_getElem? (i := 921) (by decide +kernel)) rfl
theorem ml_L_17 : zML RL 17 mi_X11_feed := zw_of (List.mem_of_getElem? (i := 1028) (by decide +kernel)) rfl
theorem ml_X11_72 : zML RX11 72 mi_X11_in := zw_of (List.mem_of_getElem? (i := 1032) (by decide +kernel)) rfl
theorem kc_X11_76 : zKI RX11 76 (-1000000002) := zw_of (List.mem_of_getElem? (i := 1035) (by decide +kernel)) rfl
theorem kc_X11_80 : zKI RX11 80 (-1000000004) := zw_of (List.mem_of_getElem? (i := 1036) (by decide +kernel)) rfl
theorem ml_L_22 : zML RL 22 mi_X11_meadow := zw_of (List.mem_of_getElem? (i := 1037) (by decide +kernel)) rfl
theorem ml_X11_111 : zML RX11 111 mi_X11_advances := zw_of (List.mem_of_getElem? (i := 1041) (by decide +kernel)) rfl
theorem ml_X11_84 : zML RX11 84 mi_X11_letterAt := zw_of (List.mem_of_getElem? (i := 1045) (by decide +kernel)) rfl
theorem ml_X11_103 : zML RX11 103 mi_X11_isWell := zw_of (List.mem_of_getElem? (i := 1049) (by decide +kernel)) rfl
theorem ml_X11_124 : zML RX11 124 mi_X11_faultOf := zw_of (List.mem_of_getElem? (i := 1053) (by decide +kernel)) rfl
theorem ml_X11_107 : zML RX11 107 mi_X11_fails := zw_of (List.mem_of_getElem? (i := 1057) (by decide +kernel)) rfl
theorem ml_X11_128 : zML RX11 128 mi_X11_clause := zw_of (List.mem_of_getElem? (i := 1061) (by decide +kernel)) rfl
theorem ml_X11_117 : zML RX11 117 mi_X11_number := zw_of (List.mem_of_getElem? (i := 1065) (by decide +kernel)) rfl
theorem ml_X11_131 : zML RX11 131 mi_X11_ends := zw_of (List.mem_of_getElem? (i := 1069) (by decide +kernel)) rfl
theorem ml_X11_134 : zML RX11 134 mi_X11_settles := zw_of (List.mem_of_getElem? (i := 1073) (by decide +kernel)) rfl
theorem ml_L_26 : zML RL 26 mi_X11_fault := zw_of (List.mem_of_getElem? (i := 1077) (by decide +kernel)) rfl
theorem ml_L_30 : zML RL 30 mi_X11_told := zw_of (List.mem_of_getElem? (i := 1081) (by decide +kernel)) rfl
theorem ml_X11_155 : zML RX11 155 mi_X11_goesOn := zw_of (List.mem_of_getElem? (i := 1085) (by decide +kernel)) rfl
theorem ml_X11_152 : zML RX11 152 mi_X11_isDuel := zw_of (List.mem_of_getElem? (i := 1089) (by decide +kernel)) rfl
theorem ml_X11_158 : zML RX11 158 mi_X11_whose := zw_of (List.mem_of_getElem? (i := 1093) (by decide +kernel)) rfl
theorem ml_L_35 : zML RL 35 mi_X11_duellist := zw_of (List.mem_of_getElem? (i := 1097) (by decide +kernel)) rfl
theorem ml_X11_161 : zML RX11 161 mi_X11_isDuellist := zw_of (List.mem_of_getElem? (i := 1101) (by decide +kernel)) rfl
theorem kc_X11_165 : zKI RX11 165 (-1000000001) := zw_of (List.mem_of_getElem? (i := 1105) (by decide +kernel)) rfl
theorem ml_X11_166 : zML RX11 166 mi_X11_sideOf := zw_of (List.mem_of_getElem? (i := 1106) (by decide +kernel)) rfl
theorem ml_L_39 : zML RL 39 mi_X11_compliment := zw_of (List.mem_of_getElem? (i := 1110) (by decide +kernel)) rfl
theorem ml_X11_169 : zML RX11 169 mi_X11_isCompliment := zw_of (List.mem_of_getElem? (i := 1114) (by decide +kernel)) rfl
theorem ml_L_43 : zML RL 43 mi_X11_truth := zw_of (List.mem_of_getElem? (i := 1118) (by decide +kernel)) rfl
theorem ml_X11_175 : zML RX11 175 mi_X11_truthBy := zw_of (List.mem_of_getElem? (i := 1122) (by decide +kernel)) rfl
theorem ml_X11_172 : zML RX11 172 mi_X11_ones := zw_of (List.mem_of_getElem? (i := 1126) (by decide +kernel)) rfl
theorem ml_L_47 : zML RL 47 mi_X11_effect := zw_of (List.mem_of_getElem? (i := 1129) (by decide +kernel)) rfl
theorem ml_X11_186 : zML RX11 186 mi_X11_firstTold := zw_of (List.mem_of_getElem? (i := 1133) (by decide +kernel)) rfl
theorem ml_X11_179 : zML RX11 179 mi_X11_vanityOf := zw_of (List.mem_of_getElem? (i := 1137) (by decide +kernel)) rfl
theorem ml_X11_182 : zML RX11 182 mi_X11_effectBy := zw_of (List.mem_of_getElem? (i := 1141) (by decide +kernel)) rfl
theorem ml_L_51 : zML RL 51 mi_X11_duel := zw_of (List.mem_of_getElem? (i := 1145) (by decide +kernel)) rfl
theorem ml_L_55 : zML RL 55 mi_X11_say := zw_of (List.mem_of_getElem? (i := 1149) (by decide +kernel)) rfl
theorem ml_X11_202 : zML RX11 202 mi_X11_canTurn := zw_of (List.mem_of_getElem? (i := 1153) (by decide +kernel)) rfl
theorem kc_X11_206 : zKI RX11 206 (-1000000003) := zw_of (List.mem_of_getElem? (i := 1157) (by decide +kernel)) rfl
theorem ml_X11_207 : zML RX11 207 mi_X11_does := zw_of (List.mem_of_getElem? (i := 1158) (by decide +kernel)) rfl
theorem ml_X11_199 : zML RX11 199 mi_X11_turns := zw_of (List.mem_of_getElem? (i := 1162) (by decide +kernel)) rfl
theorem ml_X11_192 : zML RX11 192 mi_X11_over := zw_of (List.mem_of_getElem? (i := 1166) (by decide +kernel)) rfl
theorem ml_X11_189 : zML RX11 189 mi_X11_pairOf := zw_of (List.mem_of_getElem? (i := 1169) (by decide +kernel)) rfl
theorem ml_X11_196 : zML RX11 196 mi_X11_says := zw_of (List.mem_of_getElem? (i := 1172) (by decide +kernel)) rfl
theorem ml_L_59 : zML RL 59 mi_X11_pass := zw_of (List.mem_of_getElem? (i := 1176) (by decide +kernel)) rfl
theorem ml_L_63 : zML RL 63 mi_X11_sorr := zw_of (List.mem_of_getElem? (i := 1180) (by decide +kernel)) rfl
theorem ml_L_67 : zML RL 67 mi_X11_undo := zw_of (List.mem_of_getElem? (i := 1184) (by decide +kernel)) rfl
theorem ml_L_71 : zML RL 71 mi_X11_act := zw_of (List.mem_of_getElem? (i := 1188) (by decide +kernel)) rfl
theorem ml_L_76 : zML RL 76 mi_X11_vanity := zw_of (List.mem_of_getElem? (i := 1192) (by decide +kernel)) rfl
theorem ml_L_80 : zML RL 80 mi_X11_drift := zw_of (List.mem_of_getElem? (i := 1196) (by decide +kernel)) rfl
theorem ml_X11_213 : zML RX11 213 mi_X11_draw := zw_of (List.mem_of_getElem? (i := 1200) (by decide +kernel)) rfl
theorem kc_X11_210 : zKI RX11 210 (1103515245) := zw_of (List.mem_of_getElem? (i := 1204) (by decide +kernel)) rfl
theorem kc_X11_211 : zKI RX11 211 (2147483647) := zw_of (List.mem_of_getElem? (i := 1205) (by decide +kernel)) rfl
theorem kc_X11_212 : zKI RX11 212 (65536) := zw_of (List.mem_of_getElem? (i := 1206) (by decide +kernel)) rfl
theorem ml_X11_216 : zML RX11 216 mi_X11_unsaid := zw_of (List.mem_of_getElem? (i := 1207) (by decide +kernel)) rfl
theorem ml_L_84 : zML RL 84 mi_X11_best := zw_of (List.mem_of_getElem? (i := 1211) (by decide +kernel)) rfl
theorem ml_X11_235 : zML RX11 235 mi_X11_plays := zw_of (List.mem_of_getElem? (i := 1215) (by decide +kernel)) rfl
theorem ml_X11_222 : zML RX11 222 mi_X11_asNow := zw_of (List.mem_of_getElem? (i := 1219) (by decide +kernel)) rfl
theorem ml_X11_225 : zML RX11 225 mi_X11_pushes := zw_of (List.mem_of_getElem? (i := 1223) (by decide +kernel)) rfl
theorem ml_X11_228 : zML RX11 228 mi_X11_merges := zw_of (List.mem_of_getElem? (i := 1227) (by decide +kernel)) rfl
theorem ml_X11_232 : zML RX11 232 mi_X11_loads := zw_of (List.mem_of_getElem? (i := 1231) (by decide +kernel)) rfl
theorem ml_L_88 : zML RL 88 mi_X11_greatest := zw_of (List.mem_of_getElem? (i := 1235) (by decide +kernel)) rfl
theorem ml_X11_238 : zML RX11 238 mi_X11_against := zw_of (List.mem_of_getElem? (i := 1239) (by decide +kernel)) rfl
theorem ml_X11_241 : zML RX11 241 mi_X11_effectNow := zw_of (List.mem_of_getElem? (i := 1243) (by decide +kernel)) rfl
theorem ml_L_93 : zML RL 93 mi_X11_harden := zw_of (List.mem_of_getElem? (i := 1247) (by decide +kernel)) rfl
theorem ml_X11_244 : zML RX11 244 mi_X11_less := zw_of (List.mem_of_getElem? (i := 1251) (by decide +kernel)) rfl
theorem ml_L_97 : zML RL 97 mi_X11_deeds := zw_of (List.mem_of_getElem? (i := 1255) (by decide +kernel)) rfl
theorem ml_L_101 : zML RL 101 mi_X11_league := zw_of (List.mem_of_getElem? (i := 1259) (by decide +kernel)) rfl
theorem ml_X11_254 : zML RX11 254 mi_X11_isFirst := zw_of (List.mem_of_getElem? (i := 1263) (by decide +kernel)) rfl
theorem ml_X11_248 : zML RX11 248 mi_X11_counted := zw_of (List.mem_of_getElem? (i := 1267) (by decide +kernel)) rfl
theorem ml_X11_251 : zML RX11 251 mi_X11_leftOf := zw_of (List.mem_of_getElem? (i := 1271) (by decide +kernel)) rfl
theorem ml_L_105 : zML RL 105 mi_X11_met := zw_of (List.mem_of_getElem? (i := 1275) (by decide +kernel)) rfl
theorem ml_L_109 : zML RL 109 mi_X11_shared := zw_of (List.mem_of_getElem? (i := 1279) (by decide +kernel)) rfl
theorem ml_L_113 : zML RL 113 mi_X11_powder := zw_of (List.mem_of_getElem? (i := 1283) (by decide +kernel)) rfl
theorem ml_L_117 : zML RL 117 mi_X11_warm := zw_of (List.mem_of_getElem? (i := 1287) (by decide +kernel)) rfl
theorem ml_L_121 : zML RL 121 mi_X11_vain := zw_of (List.mem_of_getElem? (i := 1291) (by decide +kernel)) rfl
theorem ml_X11_257 : zML RX11 257 mi_X11_vanities := zw_of (List.mem_of_getElem? (i := 1295) (by decide +kernel)) rfl
theorem ml_L_125 : zML RL 125 mi_X11_probe := zw_of (List.mem_of_getElem? (i := 1299) (by decide +kernel)) rfl
theorem ml_X11_260 : zML RX11 260 mi_X11_greatestPart := zw_of (List.mem_of_getElem? (i := 1303) (by decide +kernel)) rfl
theorem ml_L_129 : zML RL 129 mi_X11_cheek := zw_of (List.mem_of_getElem? (i := 1307) (by decide +kernel)) rfl
theorem ml_L_133 : zML RL 133 mi_X11_said := zw_of (List.mem_of_getElem? (i := 1311) (by decide +kernel)) rfl
theorem ml_X11_263 : zML RX11 263 mi_X11_isRow := zw_of (List.mem_of_getElem? (i := 1315) (by decide +kernel)) rfl
theorem ml_L_137 : zML RL 137 mi_X11_surely := zw_of (List.mem_of_getElem? (i := 1319) (by decide +kernel)) rfl
theorem ml_L_141 : zML RL 141 mi_X11_write := zw_of (List.mem_of_getElem? (i := 1323) (by decide +kernel)) rfl
theorem ml_L_145 : zML RL 145 mi_X11_judge := zw_of (List.mem_of_getElem? (i := 1327) (by decide +kernel)) rfl
theorem ml_L_149 : zML RL 149 mi_X11_tear := zw_of (List.mem_of_getElem? (i := 1331) (by decide +kernel)) rfl
theorem ml_L_153 : zML RL 153 mi_X11_seed := zw_of (List.mem_of_getElem? (i := 1335) (by decide +kernel)) rfl
theorem ml_L_157 : zML RL 157 mi_X11_keep := zw_of (List.mem_of_getElem? (i := 1339) (by decide +kernel)) rfl
theorem ml_L_161 : zML RL 161 mi_X11_goBack := zw_of (List.mem_of_getElem? (i := 1343) (by decide +kernel)) rfl
theorem zw_native : Cond.native arraycopyName ∈ zTW := zw_of (List.mem_of_getElem? (i := 403) (by decide +kernel)) rfl
theorem zw_acstat : Cond.static arraycopyName ∈ zTW := zw_of (List.mem_of_getElem? (i := 402) (by decide +kernel)) rfl
theorem zw_sysini : Cond.initialized "java/lang/System" ∈ zTW := zw_of (List.mem_of_getElem? (i := 14) (by decide +kernel)) rfl
theorem zw_oinst : Cond.instanceMethod objectInit ∈ zTW := zw_of (List.mem_of_getElem? (i := 22) (by decide +kernel)) rfl
theorem zw_ocode : Cond.code objectInit ⟨#[0xb1]⟩ 1 none ∈ zTW := zw_of (List.mem_of_getElem? (i := 23) (by decide +kernel)) rfl
theorem zw_arrI : Cond.arrayClass .int ∈ zTW := zw_of (List.mem_of_getElem? (i := 62) (by decide +kernel)) rfl
theorem zw_arrZ : Cond.arrayClass .boolean ∈ zTW := zw_of (List.mem_of_getElem? (i := 224) (by decide +kernel)) rfl
theorem zw_over : Cond.arrayOver (.object RX9) ∈ lw_tbl := List.mem_append_right _ (List.mem_of_getElem? (i := 191) (by decide +kernel))
theorem zw_nest0 : Cond.methodLinkNest RX10 9 yX4_init RX10 ∈ lw_tbl := List.mem_append_right _ (List.mem_of_getElem? (i := 26) (by decide +kernel))
theorem zw_nest1 : Cond.methodLinkNest RX10 18 yX6_init RX10 ∈ lw_tbl := List.mem_append_right _ (List.mem_of_getElem? (i := 65) (by decide +kernel))
theorem zw_nest2 : Cond.methodLinkNest RX6 11 yX4_init RX10 ∈ lw_tbl := List.mem_append_right _ (List.mem_of_getElem? (i := 70) (by decide +kernel))
theorem zw_nest3 : Cond.methodLinkNest RX9 11 yX3_init RX10 ∈ lw_tbl := List.mem_append_right _ (List.mem_of_getElem? (i := 104) (by decide +kernel))
theorem zw_nest4 : Cond.methodLinkNest RX10 42 yX5_init RX10 ∈ lw_tbl := List.mem_append_right _ (List.mem_of_getElem? (i := 194) (by decide +kernel))
theorem zlay_X0 : ∀ w ∈ u_ws RX0 TX0 4, w ∈ zTW := by
  intro w hw
  obtain ⟨k, hk, rfl⟩ := List.mem_map.mp hw
  have hk := List.mem_range.mp hk
  match k, hk with
  | 0, _ => exact zw_of (List.mem_of_getElem? (i := 238) (by decide +kernel)) rfl
  | 1, _ => exact zw_of (List.mem_of_getElem? (i := 240) (by decide +kernel)) rfl
  | 2, _ => exact zw_of (List.mem_of_getElem? (i := 242) (by decide +kernel)) rfl
  | 3, _ => exact zw_of (List.mem_of_getElem? (i := 244) (by decide +kernel)) rfl
  | k + 4, h => exact absurd h (by omega)
theorem zlay_X1 : ∀ w ∈ u_ws RX1 TX1 2, w ∈ zTW := by
  intro w hw
  obtain ⟨k, hk, rfl⟩ := List.mem_map.mp hw
  have hk := List.mem_range.mp hk
  match k, hk with
  | 0, _ => exact zw_of (List.mem_of_getElem? (i := 146) (by decide +kernel)) rfl
  | 1, _ => exact zw_of (List.mem_of_getElem? (i := 148) (by decide +kernel)) rfl
  | k + 2, h => exact absurd h (by omega)
theorem zlay_X2 : ∀ w ∈ u_ws RX2 TX2 3, w ∈ zTW := by
  intro w hw
  obtain ⟨k, hk, rfl⟩ := List.mem_map.mp hw
  have hk := List.mem_range.mp hk
  match k, hk with
  | 0, _ => exact zw_of (List.mem_of_getElem? (i := 167) (by decide +kernel)) rfl
  | 1, _ => exact zw_of (List.mem_of_getElem? (i := 169) (by decide +kernel)) rfl
  | 2, _ => exact zw_of (List.mem_of_getElem? (i := 171) (by decide +kernel)) rfl
  | k + 3, h => exact absurd h (by omega)
theorem zlay_X3 : ∀ w ∈ u_ws RX3 TX3 5, w ∈ zTW := by
  intro w hw
  obtain ⟨k, hk, rfl⟩ := List.mem_map.mp hw
  have hk := List.mem_range.mp hk
  match k, hk with
  | 0, _ => exact zw_of (List.mem_of_getElem? (i := 113) (by decide +kernel)) rfl
  | 1, _ => exact zw_of (List.mem_of_getElem? (i := 115) (by decide +kernel)) rfl
  | 2, _ => exact zw_of (List.mem_of_getElem? (i := 117) (by decide +kernel)) rfl
  | 3, _ => exact zw_of (List.mem_of_getElem? (i := 119) (by decide +kernel)) rfl
  | 4, _ => exact zw_of (List.mem_of_getElem? (i := 121) (by decide +kernel)) rfl
  | k + 5, h => exact absurd h (by omega)
theorem zlay_X4 : ∀ w ∈ u_ws RX4 TX4 6, w ∈ zTW := by
  intro w hw
  obtain ⟨k, hk, rfl⟩ := List.mem_map.mp hw
  have hk := List.mem_range.mp hk
  match k, hk with
  | 0, _ => exact zw_of (List.mem_of_getElem? (i := 49) (by decide +kernel)) rfl
  | 1, _ => exact zw_of (List.mem_of_getElem? (i := 51) (by decide +kernel)) rfl
  | 2, _ => exact zw_of (List.mem_of_getElem? (i := 53) (by decide +kernel)) rfl
  | 3, _ => exact zw_of (List.mem_of_getElem? (i := 55) (by decide +kernel)) rfl
  | 4, _ => exact zw_of (List.mem_of_getElem? (i := 57) (by decide +kernel)) rfl
  | 5, _ => exact zw_of (List.mem_of_getElem? (i := 59) (by decide +kernel)) rfl
  | k + 6, h => exact absurd h (by omega)
theorem zlay_X5 : ∀ w ∈ u_ws RX5 TX5 7, w ∈ zTW := by
  intro w hw
  obtain ⟨k, hk, rfl⟩ := List.mem_map.mp hw
  have hk := List.mem_range.mp hk
  match k, hk with
  | 0, _ => exact zw_of (List.mem_of_getElem? (i := 209) (by decide +kernel)) rfl
  | 1, _ => exact zw_of (List.mem_of_getElem? (i := 211) (by decide +kernel)) rfl
  | 2, _ => exact zw_of (List.mem_of_getElem? (i := 213) (by decide +kernel)) rfl
  | 3, _ => exact zw_of (List.mem_of_getElem? (i := 215) (by decide +kernel)) rfl
  | 4, _ => exact zw_of (List.mem_of_getElem? (i := 217) (by decide +kernel)) rfl
  | 5, _ => exact zw_of (List.mem_of_getElem? (i := 219) (by decide +kernel)) rfl
  | 6, _ => exact zw_of (List.mem_of_getElem? (i := 221) (by decide +kernel)) rfl
  | k + 7, h => exact absurd h (by omega)
theorem zlay_X6 : ∀ w ∈ u_ws RX6 TX6 7, w ∈ zTW := by
  intro w hw
  obtain ⟨k, hk, rfl⟩ := List.mem_map.mp hw
  have hk := List.mem_range.mp hk
  match k, hk with
  | 0, _ => exact zw_of (List.mem_of_getElem? (i := 81) (by decide +kernel)) rfl
  | 1, _ => exact zw_of (List.mem_of_getElem? (i := 83) (by decide +kernel)) rfl
  | 2, _ => exact zw_of (List.mem_of_getElem? (i := 85) (by decide +kernel)) rfl
  | 3, _ => exact zw_of (List.mem_of_getElem? (i := 87) (by decide +kernel)) rfl
  | 4, _ => exact zw_of (List.mem_of_getElem? (i := 89) (by decide +kernel)) rfl
  | 5, _ => exact zw_of (List.mem_of_getElem? (i := 91) (by decide +kernel)) rfl
  | 6, _ => exact zw_of (List.mem_of_getElem? (i := 93) (by decide +kernel)) rfl
  | k + 7, h => exact absurd h (by omega)
theorem zlay_X7 : ∀ w ∈ u_ws RX7 TX7 8, w ∈ zTW := by
  intro w hw
  obtain ⟨k, hk, rfl⟩ := List.mem_map.mp hw
  have hk := List.mem_range.mp hk
  match k, hk with
  | 0, _ => exact zw_of (List.mem_of_getElem? (i := 263) (by decide +kernel)) rfl
  | 1, _ => exact zw_of (List.mem_of_getElem? (i := 265) (by decide +kernel)) rfl
  | 2, _ => exact zw_of (List.mem_of_getElem? (i := 267) (by decide +kernel)) rfl
  | 3, _ => exact zw_of (List.mem_of_getElem? (i := 269) (by decide +kernel)) rfl
  | 4, _ => exact zw_of (List.mem_of_getElem? (i := 271) (by decide +kernel)) rfl
  | 5, _ => exact zw_of (List.mem_of_getElem? (i := 273) (by decide +kernel)) rfl
  | 6, _ => exact zw_of (List.mem_of_getElem? (i := 275) (by decide +kernel)) rfl
  | 7, _ => exact zw_of (List.mem_of_getElem? (i := 277) (by decide +kernel)) rfl
  | k + 8, h => exact absurd h (by omega)
theorem zlay_X9 : ∀ w ∈ u_ws RX9 TX9 4, w ∈ zTW := by
  intro w hw
  obtain ⟨k, hk, rfl⟩ := List.mem_map.mp hw
  have hk := List.mem_range.mp hk
  match k, hk with
  | 0, _ => exact zw_of (List.mem_of_getElem? (i := 182) (by decide +kernel)) rfl
  | 1, _ => exact zw_of (List.mem_of_getElem? (i := 184) (by decide +kernel)) rfl
  | 2, _ => exact zw_of (List.mem_of_getElem? (i := 186) (by decide +kernel)) rfl
  | 3, _ => exact zw_of (List.mem_of_getElem? (i := 188) (by decide +kernel)) rfl
  | k + 4, h => exact absurd h (by omega)
theorem zlay_X10 : ∀ w ∈ u_ws RX10 TX10 10, w ∈ zTW := by
  intro w hw
  obtain ⟨k, hk, rfl⟩ := List.mem_map.mp hw
  have hk := List.mem_range.mp hk
  match k, hk with
  | 0, _ => exact zw_of (List.mem_of_getElem? (i := 290) (by decide +kernel)) rfl
  | 1, _ => exact zw_of (List.mem_of_getElem? (i := 292) (by decide +kernel)) rfl
  | 2, _ => exact zw_of (List.mem_of_getElem? (i := 294) (by decide +kernel)) rfl
  | 3, _ => exact zw_of (List.mem_of_getElem? (i := 296) (by decide +kernel)) rfl
  | 4, _ => exact zw_of (List.mem_of_getElem? (i := 298) (by decide +kernel)) rfl
  | 5, _ => exact zw_of (List.mem_of_getElem? (i := 300) (by decide +kernel)) rfl
  | 6, _ => exact zw_of (List.mem_of_getElem? (i := 302) (by decide +kernel)) rfl
  | 7, _ => exact zw_of (List.mem_of_getElem? (i := 304) (by decide +kernel)) rfl
  | 8, _ => exact zw_of (List.mem_of_getElem? (i := 306) (by decide +kernel)) rfl
  | 9, _ => exact zw_of (List.mem_of_getElem? (i := 308) (by decide +kernel)) rfl
  | k + 10, h => exact absurd h (by omega)
theorem zlay_X11 : ∀ w ∈ u_ws RX11 TX11 35, w ∈ zTW := by
  intro w hw
  obtain ⟨k, hk, rfl⟩ := List.mem_map.mp hw
  have hk := List.mem_range.mp hk
  match k, hk with
  | 0, _ => exact zw_of (List.mem_of_getElem? (i := 957) (by decide +kernel)) rfl
  | 1, _ => exact zw_of (List.mem_of_getElem? (i := 959) (by decide +kernel)) rfl
  | 2, _ => exact zw_of (List.mem_of_getElem? (i := 961) (by decide +kernel)) rfl
  | 3, _ => exact zw_of (List.mem_of_getElem? (i := 963) (by decide +kernel)) rfl
  | 4, _ => exact zw_of (List.mem_of_getElem? (i := 965) (by decide +kernel)) rfl
  | 5, _ => exact zw_of (List.mem_of_getElem? (i := 967) (by decide +kernel)) rfl
  | 6, _ => exact zw_of (List.mem_of_getElem? (i := 969) (by decide +kernel)) rfl
  | 7, _ => exact zw_of (List.mem_of_getElem? (i := 971) (by decide +kernel)) rfl
  | 8, _ => exact zw_of (List.mem_of_getElem? (i := 973) (by decide +kernel)) rfl
  | 9, _ => exact zw_of (List.mem_of_getElem? (i := 975) (by decide +kernel)) rfl
  | 10, _ => exact zw_of (List.mem_of_getElem? (i := 977) (by decide +kernel)) rfl
  | 11, _ => exact zw_of (List.mem_of_getElem? (i := 979) (by decide +kernel)) rfl
  | 12, _ => exact zw_of (List.mem_of_getElem? (i := 981) (by decide +kernel)) rfl
  | 13, _ => exact zw_of (List.mem_of_getElem? (i := 983) (by decide +kernel)) rfl
  | 14, _ => exact zw_of (List.mem_of_getElem? (i := 985) (by decide +kernel)) rfl
  | 15, _ => exact zw_of (List.mem_of_getElem? (i := 987) (by decide +kernel)) rfl
  | 16, _ => exact zw_of (List.mem_of_getElem? (i := 989) (by decide +kernel)) rfl
  | 17, _ => exact zw_of (List.mem_of_getElem? (i := 991) (by decide +kernel)) rfl
  | 18, _ => exact zw_of (List.mem_of_getElem? (i := 993) (by decide +kernel)) rfl
  | 19, _ => exact zw_of (List.mem_of_getElem? (i := 995) (by decide +kernel)) rfl
  | 20, _ => exact zw_of (List.mem_of_getElem? (i := 997) (by decide +kernel)) rfl
  | 21, _ => exact zw_of (List.mem_of_getElem? (i := 999) (by decide +kernel)) rfl
  | 22, _ => exact zw_of (List.mem_of_getElem? (i := 1001) (by decide +kernel)) rfl
  | 23, _ => exact zw_of (List.mem_of_getElem? (i := 1003) (by decide +kernel)) rfl
  | 24, _ => exact zw_of (List.mem_of_getElem? (i := 1005) (by decide +kernel)) rfl
  | 25, _ => exact zw_of (List.mem_of_getElem? (i := 1007) (by decide +kernel)) rfl
  | 26, _ => exact zw_of (List.mem_of_getElem? (i := 1009) (by decide +kernel)) rfl
  | 27, _ => exact zw_of (List.mem_of_getElem? (i := 1011) (by decide +kernel)) rfl
  | 28, _ => exact zw_of (List.mem_of_getElem? (i := 1013) (by decide +kernel)) rfl
  | 29, _ => exact zw_of (List.mem_of_getElem? (i := 1015) (by decide +kernel)) rfl
  | 30, _ => exact zw_of (List.mem_of_getElem? (i := 1017) (by decide +kernel)) rfl
  | 31, _ => exact zw_of (List.mem_of_getElem? (i := 1019) (by decide +kernel)) rfl
  | 32, _ => exact zw_of (List.mem_of_getElem? (i := 1021) (by decide +kernel)) rfl
  | 33, _ => exact zw_of (List.mem_of_getElem? (i := 1023) (by decide +kernel)) rfl
  | 34, _ => exact zw_of (List.mem_of_getElem? (i := 1025) (by decide +kernel)) rfl
  | k + 35, h => exact absurd h (by omega)
