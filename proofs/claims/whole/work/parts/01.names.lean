-- ===== PART A: goes FIRST, ahead of the names: the tables' words, and 'selects' of the private methods out of them =====
/-- a private method of a class that the tables say can be made, by its rows of tables_1 -/
def lw_okq (q : MethodName × Nat) : Prop := (q.1.cls ≠ "java/lang/invoke/MethodHandle" ∧ q.1.cls ≠ "java/lang/invoke/VarHandle") ∧ Cond.instantiable q.1.cls q.2 ∈ tables_1 ∧ Cond.privateMethod q.1 ∈ tables_1 ∧ Cond.instanceMethod q.1 ∈ tables_1
theorem lw_p0 : lw_okq (⟨"WorkedBack", "isMonth", "(I)Z"⟩, 8) := ⟨⟨by decide +kernel, by decide +kernel⟩, List.mem_of_getElem? (i := 19) (by decide +kernel), List.mem_of_getElem? (i := 475) (by decide +kernel), List.mem_of_getElem? (i := 476) (by decide +kernel)⟩
theorem lw_p1 : lw_okq (⟨"WorkedBack$Text", "beginTest", "()V"⟩, 10) := ⟨⟨by decide +kernel, by decide +kernel⟩, List.mem_of_getElem? (i := 92) (by decide +kernel), List.mem_of_getElem? (i := 575) (by decide +kernel), List.mem_of_getElem? (i := 576) (by decide +kernel)⟩
theorem lw_p2 : lw_okq (⟨"WorkedBack$Text", "endTest", "()V"⟩, 10) := ⟨⟨by decide +kernel, by decide +kernel⟩, List.mem_of_getElem? (i := 92) (by decide +kernel), List.mem_of_getElem? (i := 579) (by decide +kernel), List.mem_of_getElem? (i := 580) (by decide +kernel)⟩
theorem lw_p3 : lw_okq (⟨"WorkedBack$Text", "setBelow", "()V"⟩, 10) := ⟨⟨by decide +kernel, by decide +kernel⟩, List.mem_of_getElem? (i := 92) (by decide +kernel), List.mem_of_getElem? (i := 583) (by decide +kernel), List.mem_of_getElem? (i := 584) (by decide +kernel)⟩
theorem lw_p4 : lw_okq (⟨"WorkedBack$Text", "narrowBoth", "(II)V"⟩, 10) := ⟨⟨by decide +kernel, by decide +kernel⟩, List.mem_of_getElem? (i := 92) (by decide +kernel), List.mem_of_getElem? (i := 593) (by decide +kernel), List.mem_of_getElem? (i := 594) (by decide +kernel)⟩
theorem lw_p5 : lw_okq (⟨"WorkedBack$Text", "readOn", "(I)V"⟩, 10) := ⟨⟨by decide +kernel, by decide +kernel⟩, List.mem_of_getElem? (i := 92) (by decide +kernel), List.mem_of_getElem? (i := 603) (by decide +kernel), List.mem_of_getElem? (i := 604) (by decide +kernel)⟩
theorem lw_p6 : lw_okq (⟨"WorkedBack$Book", "needOfPair", "(II)I"⟩, 8) := ⟨⟨by decide +kernel, by decide +kernel⟩, List.mem_of_getElem? (i := 27) (by decide +kernel), List.mem_of_getElem? (i := 675) (by decide +kernel), List.mem_of_getElem? (i := 676) (by decide +kernel)⟩
theorem lw_p7 : lw_okq (⟨"WorkedBack$Course", "setNeeds", "(LWorkedBack$Book;I)V"⟩, 10) := ⟨⟨by decide +kernel, by decide +kernel⟩, List.mem_of_getElem? (i := 207) (by decide +kernel), List.mem_of_getElem? (i := 723) (by decide +kernel), List.mem_of_getElem? (i := 724) (by decide +kernel)⟩
theorem lw_p8 : lw_okq (⟨"WorkedBack$Course", "goesThrough", "(LWorkedBack$Flow;I)Z"⟩, 10) := ⟨⟨by decide +kernel, by decide +kernel⟩, List.mem_of_getElem? (i := 207) (by decide +kernel), List.mem_of_getElem? (i := 741) (by decide +kernel), List.mem_of_getElem? (i := 742) (by decide +kernel)⟩
theorem lw_p9 : lw_okq (⟨"WorkedBack$Works", "setMade", "()V"⟩, 13) := ⟨⟨by decide +kernel, by decide +kernel⟩, List.mem_of_getElem? (i := 133) (by decide +kernel), List.mem_of_getElem? (i := 777) (by decide +kernel), List.mem_of_getElem? (i := 778) (by decide +kernel)⟩
theorem lw_p10 : lw_okq (⟨"WorkedBack$Works", "firstWith", "(II)I"⟩, 13) := ⟨⟨by decide +kernel, by decide +kernel⟩, List.mem_of_getElem? (i := 133) (by decide +kernel), List.mem_of_getElem? (i := 861) (by decide +kernel), List.mem_of_getElem? (i := 862) (by decide +kernel)⟩
theorem lw_p11 : lw_okq (⟨"WorkedBack$Search", "leastMore", "()I"⟩, 7) := ⟨⟨by decide +kernel, by decide +kernel⟩, List.mem_of_getElem? (i := 322) (by decide +kernel), List.mem_of_getElem? (i := 889) (by decide +kernel), List.mem_of_getElem? (i := 890) (by decide +kernel)⟩
theorem lw_p12 : lw_okq (⟨"WorkedBack$Search", "seekDoubtOf", "(I)V"⟩, 7) := ⟨⟨by decide +kernel, by decide +kernel⟩, List.mem_of_getElem? (i := 322) (by decide +kernel), List.mem_of_getElem? (i := 901) (by decide +kernel), List.mem_of_getElem? (i := 902) (by decide +kernel)⟩
theorem lw_p13 : lw_okq (⟨"WorkedBack$Course", "chartAhead", "(LWorkedBack$Flow;I)V"⟩, 10) := ⟨⟨by decide +kernel, by decide +kernel⟩, List.mem_of_getElem? (i := 207) (by decide +kernel), List.mem_of_getElem? (i := 927) (by decide +kernel), List.mem_of_getElem? (i := 928) (by decide +kernel)⟩
theorem lw_p14 : lw_okq (⟨"WorkedBack$Course", "chartOnward", "(LWorkedBack$Flow;I)V"⟩, 10) := ⟨⟨by decide +kernel, by decide +kernel⟩, List.mem_of_getElem? (i := 207) (by decide +kernel), List.mem_of_getElem? (i := 934) (by decide +kernel), List.mem_of_getElem? (i := 935) (by decide +kernel)⟩
theorem lw_p15 : lw_okq (⟨"WorkedBack$Break", "hasStarts", "(I)Z"⟩, 10) := ⟨⟨by decide +kernel, by decide +kernel⟩, List.mem_of_getElem? (i := 354) (by decide +kernel), List.mem_of_getElem? (i := 947) (by decide +kernel), List.mem_of_getElem? (i := 948) (by decide +kernel)⟩
def lw_privs_1 : List (MethodName × Nat) := [(⟨"WorkedBack", "isMonth", "(I)Z"⟩, 8), (⟨"WorkedBack$Text", "beginTest", "()V"⟩, 10), (⟨"WorkedBack$Text", "endTest", "()V"⟩, 10), (⟨"WorkedBack$Text", "setBelow", "()V"⟩, 10), (⟨"WorkedBack$Text", "narrowBoth", "(II)V"⟩, 10), (⟨"WorkedBack$Text", "readOn", "(I)V"⟩, 10), (⟨"WorkedBack$Book", "needOfPair", "(II)I"⟩, 8), (⟨"WorkedBack$Course", "setNeeds", "(LWorkedBack$Book;I)V"⟩, 10), (⟨"WorkedBack$Course", "goesThrough", "(LWorkedBack$Flow;I)Z"⟩, 10), (⟨"WorkedBack$Works", "setMade", "()V"⟩, 13), (⟨"WorkedBack$Works", "firstWith", "(II)I"⟩, 13), (⟨"WorkedBack$Search", "leastMore", "()I"⟩, 7), (⟨"WorkedBack$Search", "seekDoubtOf", "(I)V"⟩, 7), (⟨"WorkedBack$Course", "chartAhead", "(LWorkedBack$Flow;I)V"⟩, 10), (⟨"WorkedBack$Course", "chartOnward", "(LWorkedBack$Flow;I)V"⟩, 10), (⟨"WorkedBack$Break", "hasStarts", "(I)Z"⟩, 10)]
theorem lw_r1 : ∀ q ∈ lw_privs_1, lw_okq q := List.forall_mem_cons.mpr ⟨lw_p0, List.forall_mem_cons.mpr ⟨lw_p1, List.forall_mem_cons.mpr ⟨lw_p2, List.forall_mem_cons.mpr ⟨lw_p3, List.forall_mem_cons.mpr ⟨lw_p4, List.forall_mem_cons.mpr ⟨lw_p5, List.forall_mem_cons.mpr ⟨lw_p6, List.forall_mem_cons.mpr ⟨lw_p7, List.forall_mem_cons.mpr ⟨lw_p8, List.forall_mem_cons.mpr ⟨lw_p9, List.forall_mem_cons.mpr ⟨lw_p10, List.forall_mem_cons.mpr ⟨lw_p11, List.forall_mem_cons.mpr ⟨lw_p12, List.forall_mem_cons.mpr ⟨lw_p13, List.forall_mem_cons.mpr ⟨lw_p14, List.forall_mem_cons.mpr ⟨lw_p15, fun _ h => absurd h List.not_mem_nil⟩⟩⟩⟩⟩⟩⟩⟩⟩⟩⟩⟩⟩⟩⟩⟩
theorem lw_p16 : lw_okq (⟨"WorkedBack$Break", "partnerOf", "(I)I"⟩, 10) := ⟨⟨by decide +kernel, by decide +kernel⟩, List.mem_of_getElem? (i := 354) (by decide +kernel), List.mem_of_getElem? (i := 951) (by decide +kernel), List.mem_of_getElem? (i := 952) (by decide +kernel)⟩
theorem lw_p17 : lw_okq (⟨"WorkedBack$Break", "hasLaters", "(II)Z"⟩, 10) := ⟨⟨by decide +kernel, by decide +kernel⟩, List.mem_of_getElem? (i := 354) (by decide +kernel), List.mem_of_getElem? (i := 958) (by decide +kernel), List.mem_of_getElem? (i := 959) (by decide +kernel)⟩
theorem lw_p18 : lw_okq (⟨"WorkedBack$Break", "latersOf", "(III)I"⟩, 10) := ⟨⟨by decide +kernel, by decide +kernel⟩, List.mem_of_getElem? (i := 354) (by decide +kernel), List.mem_of_getElem? (i := 963) (by decide +kernel), List.mem_of_getElem? (i := 964) (by decide +kernel)⟩
theorem lw_p19 : lw_okq (⟨"WorkedBack$Course", "isPlace", "(II)Z"⟩, 10) := ⟨⟨by decide +kernel, by decide +kernel⟩, List.mem_of_getElem? (i := 207) (by decide +kernel), List.mem_of_getElem? (i := 972) (by decide +kernel), List.mem_of_getElem? (i := 973) (by decide +kernel)⟩
theorem lw_p20 : lw_okq (⟨"WorkedBack$Break", "latersWith", "(IIIII)I"⟩, 10) := ⟨⟨by decide +kernel, by decide +kernel⟩, List.mem_of_getElem? (i := 354) (by decide +kernel), List.mem_of_getElem? (i := 990) (by decide +kernel), List.mem_of_getElem? (i := 991) (by decide +kernel)⟩
theorem lw_p21 : lw_okq (⟨"WorkedBack$Break", "isFound", "(I)Z"⟩, 10) := ⟨⟨by decide +kernel, by decide +kernel⟩, List.mem_of_getElem? (i := 354) (by decide +kernel), List.mem_of_getElem? (i := 995) (by decide +kernel), List.mem_of_getElem? (i := 996) (by decide +kernel)⟩
theorem lw_p22 : lw_okq (⟨"WorkedBack$Break", "isFoundFrom", "(II)Z"⟩, 10) := ⟨⟨by decide +kernel, by decide +kernel⟩, List.mem_of_getElem? (i := 354) (by decide +kernel), List.mem_of_getElem? (i := 1000) (by decide +kernel), List.mem_of_getElem? (i := 1001) (by decide +kernel)⟩
theorem lw_p23 : lw_okq (⟨"WorkedBack$Weighing", "weighAll", "()V"⟩, 7) := ⟨⟨by decide +kernel, by decide +kernel⟩, List.mem_of_getElem? (i := 399) (by decide +kernel), List.mem_of_getElem? (i := 1052) (by decide +kernel), List.mem_of_getElem? (i := 1053) (by decide +kernel)⟩
theorem lw_p24 : lw_okq (⟨"WorkedBack$Weighing", "setWeights", "(I)V"⟩, 7) := ⟨⟨by decide +kernel, by decide +kernel⟩, List.mem_of_getElem? (i := 399) (by decide +kernel), List.mem_of_getElem? (i := 1058) (by decide +kernel), List.mem_of_getElem? (i := 1059) (by decide +kernel)⟩
theorem lw_p25 : lw_okq (⟨"WorkedBack$Weighing", "addWeights", "(III)V"⟩, 7) := ⟨⟨by decide +kernel, by decide +kernel⟩, List.mem_of_getElem? (i := 399) (by decide +kernel), List.mem_of_getElem? (i := 1066) (by decide +kernel), List.mem_of_getElem? (i := 1067) (by decide +kernel)⟩
theorem lw_p26 : lw_okq (⟨"WorkedBack$Weighing", "addGuestWeights", "(IIIJJ)V"⟩, 7) := ⟨⟨by decide +kernel, by decide +kernel⟩, List.mem_of_getElem? (i := 399) (by decide +kernel), List.mem_of_getElem? (i := 1074) (by decide +kernel), List.mem_of_getElem? (i := 1075) (by decide +kernel)⟩
theorem lw_p27 : lw_okq (⟨"WorkedBack$Weighing", "weigh", "(LWorkedBack$Course;II)V"⟩, 7) := ⟨⟨by decide +kernel, by decide +kernel⟩, List.mem_of_getElem? (i := 399) (by decide +kernel), List.mem_of_getElem? (i := 1078) (by decide +kernel), List.mem_of_getElem? (i := 1079) (by decide +kernel)⟩
theorem lw_p28 : lw_okq (⟨"WorkedBack$Weighing", "count", "(LWorkedBack$Course;IIII)V"⟩, 7) := ⟨⟨by decide +kernel, by decide +kernel⟩, List.mem_of_getElem? (i := 399) (by decide +kernel), List.mem_of_getElem? (i := 1084) (by decide +kernel), List.mem_of_getElem? (i := 1085) (by decide +kernel)⟩
theorem lw_p29 : lw_okq (⟨"WorkedBack$Weighing", "countKey", "(LWorkedBack$Course;IIIII)V"⟩, 7) := ⟨⟨by decide +kernel, by decide +kernel⟩, List.mem_of_getElem? (i := 399) (by decide +kernel), List.mem_of_getElem? (i := 1088) (by decide +kernel), List.mem_of_getElem? (i := 1089) (by decide +kernel)⟩
theorem lw_p30 : lw_okq (⟨"WorkedBack$Weighing", "isBetter", "(IIII)Z"⟩, 7) := ⟨⟨by decide +kernel, by decide +kernel⟩, List.mem_of_getElem? (i := 399) (by decide +kernel), List.mem_of_getElem? (i := 1114) (by decide +kernel), List.mem_of_getElem? (i := 1115) (by decide +kernel)⟩
theorem lw_p31 : lw_okq (⟨"WorkedBackModel", "isMonth", "(I)Z"⟩, 26) := ⟨⟨by decide +kernel, by decide +kernel⟩, List.mem_of_getElem? (i := 1141) (by decide +kernel), List.mem_of_getElem? (i := 1239) (by decide +kernel), List.mem_of_getElem? (i := 1240) (by decide +kernel)⟩
def lw_privs_2 : List (MethodName × Nat) := [(⟨"WorkedBack$Break", "partnerOf", "(I)I"⟩, 10), (⟨"WorkedBack$Break", "hasLaters", "(II)Z"⟩, 10), (⟨"WorkedBack$Break", "latersOf", "(III)I"⟩, 10), (⟨"WorkedBack$Course", "isPlace", "(II)Z"⟩, 10), (⟨"WorkedBack$Break", "latersWith", "(IIIII)I"⟩, 10), (⟨"WorkedBack$Break", "isFound", "(I)Z"⟩, 10), (⟨"WorkedBack$Break", "isFoundFrom", "(II)Z"⟩, 10), (⟨"WorkedBack$Weighing", "weighAll", "()V"⟩, 7), (⟨"WorkedBack$Weighing", "setWeights", "(I)V"⟩, 7), (⟨"WorkedBack$Weighing", "addWeights", "(III)V"⟩, 7), (⟨"WorkedBack$Weighing", "addGuestWeights", "(IIIJJ)V"⟩, 7), (⟨"WorkedBack$Weighing", "weigh", "(LWorkedBack$Course;II)V"⟩, 7), (⟨"WorkedBack$Weighing", "count", "(LWorkedBack$Course;IIII)V"⟩, 7), (⟨"WorkedBack$Weighing", "countKey", "(LWorkedBack$Course;IIIII)V"⟩, 7), (⟨"WorkedBack$Weighing", "isBetter", "(IIII)Z"⟩, 7), (⟨"WorkedBackModel", "isMonth", "(I)Z"⟩, 26)]
theorem lw_r2 : ∀ q ∈ lw_privs_2, lw_okq q := List.forall_mem_cons.mpr ⟨lw_p16, List.forall_mem_cons.mpr ⟨lw_p17, List.forall_mem_cons.mpr ⟨lw_p18, List.forall_mem_cons.mpr ⟨lw_p19, List.forall_mem_cons.mpr ⟨lw_p20, List.forall_mem_cons.mpr ⟨lw_p21, List.forall_mem_cons.mpr ⟨lw_p22, List.forall_mem_cons.mpr ⟨lw_p23, List.forall_mem_cons.mpr ⟨lw_p24, List.forall_mem_cons.mpr ⟨lw_p25, List.forall_mem_cons.mpr ⟨lw_p26, List.forall_mem_cons.mpr ⟨lw_p27, List.forall_mem_cons.mpr ⟨lw_p28, List.forall_mem_cons.mpr ⟨lw_p29, List.forall_mem_cons.mpr ⟨lw_p30, List.forall_mem_cons.mpr ⟨lw_p31, fun _ h => absurd h List.not_mem_nil⟩⟩⟩⟩⟩⟩⟩⟩⟩⟩⟩⟩⟩⟩⟩⟩
theorem lw_p32 : lw_okq (⟨"WorkedBackModel", "standOf", "()I"⟩, 26) := ⟨⟨by decide +kernel, by decide +kernel⟩, List.mem_of_getElem? (i := 1141) (by decide +kernel), List.mem_of_getElem? (i := 1265) (by decide +kernel), List.mem_of_getElem? (i := 1266) (by decide +kernel)⟩
theorem lw_p33 : lw_okq (⟨"WorkedBackModel", "faultOf", "()I"⟩, 26) := ⟨⟨by decide +kernel, by decide +kernel⟩, List.mem_of_getElem? (i := 1141) (by decide +kernel), List.mem_of_getElem? (i := 1281) (by decide +kernel), List.mem_of_getElem? (i := 1282) (by decide +kernel)⟩
theorem lw_p34 : lw_okq (⟨"WorkedBackModel", "boths", "()I"⟩, 26) := ⟨⟨by decide +kernel, by decide +kernel⟩, List.mem_of_getElem? (i := 1141) (by decide +kernel), List.mem_of_getElem? (i := 1289) (by decide +kernel), List.mem_of_getElem? (i := 1290) (by decide +kernel)⟩
theorem lw_p35 : lw_okq (⟨"WorkedBackModel", "keeps", "(I)Z"⟩, 26) := ⟨⟨by decide +kernel, by decide +kernel⟩, List.mem_of_getElem? (i := 1141) (by decide +kernel), List.mem_of_getElem? (i := 1304) (by decide +kernel), List.mem_of_getElem? (i := 1305) (by decide +kernel)⟩
theorem lw_p36 : lw_okq (⟨"WorkedBackModel", "goesBy", "(II)I"⟩, 26) := ⟨⟨by decide +kernel, by decide +kernel⟩, List.mem_of_getElem? (i := 1141) (by decide +kernel), List.mem_of_getElem? (i := 1311) (by decide +kernel), List.mem_of_getElem? (i := 1312) (by decide +kernel)⟩
theorem lw_p37 : lw_okq (⟨"WorkedBackModel", "goes", "(IIIIII)I"⟩, 26) := ⟨⟨by decide +kernel, by decide +kernel⟩, List.mem_of_getElem? (i := 1141) (by decide +kernel), List.mem_of_getElem? (i := 1318) (by decide +kernel), List.mem_of_getElem? (i := 1319) (by decide +kernel)⟩
theorem lw_p38 : lw_okq (⟨"WorkedBackModel", "needOf", "(IIII)I"⟩, 26) := ⟨⟨by decide +kernel, by decide +kernel⟩, List.mem_of_getElem? (i := 1141) (by decide +kernel), List.mem_of_getElem? (i := 1322) (by decide +kernel), List.mem_of_getElem? (i := 1323) (by decide +kernel)⟩
theorem lw_p39 : lw_okq (⟨"WorkedBackModel", "isStoodIn", "(I)Z"⟩, 26) := ⟨⟨by decide +kernel, by decide +kernel⟩, List.mem_of_getElem? (i := 1141) (by decide +kernel), List.mem_of_getElem? (i := 1326) (by decide +kernel), List.mem_of_getElem? (i := 1327) (by decide +kernel)⟩
theorem lw_p40 : lw_okq (⟨"WorkedBackModel", "pass", "(III)Z"⟩, 26) := ⟨⟨by decide +kernel, by decide +kernel⟩, List.mem_of_getElem? (i := 1141) (by decide +kernel), List.mem_of_getElem? (i := 1330) (by decide +kernel), List.mem_of_getElem? (i := 1331) (by decide +kernel)⟩
theorem lw_p41 : lw_okq (⟨"WorkedBackModel", "lay", "()I"⟩, 26) := ⟨⟨by decide +kernel, by decide +kernel⟩, List.mem_of_getElem? (i := 1141) (by decide +kernel), List.mem_of_getElem? (i := 1351) (by decide +kernel), List.mem_of_getElem? (i := 1352) (by decide +kernel)⟩
theorem lw_p42 : lw_okq (⟨"WorkedBackModel", "layThings", "()V"⟩, 26) := ⟨⟨by decide +kernel, by decide +kernel⟩, List.mem_of_getElem? (i := 1141) (by decide +kernel), List.mem_of_getElem? (i := 1355) (by decide +kernel), List.mem_of_getElem? (i := 1356) (by decide +kernel)⟩
theorem lw_p43 : lw_okq (⟨"WorkedBackModel", "layThing", "(I)V"⟩, 26) := ⟨⟨by decide +kernel, by decide +kernel⟩, List.mem_of_getElem? (i := 1141) (by decide +kernel), List.mem_of_getElem? (i := 1359) (by decide +kernel), List.mem_of_getElem? (i := 1360) (by decide +kernel)⟩
theorem lw_p44 : lw_okq (⟨"WorkedBackModel", "agreesWithAll", "(I)Z"⟩, 26) := ⟨⟨by decide +kernel, by decide +kernel⟩, List.mem_of_getElem? (i := 1141) (by decide +kernel), List.mem_of_getElem? (i := 1363) (by decide +kernel), List.mem_of_getElem? (i := 1364) (by decide +kernel)⟩
theorem lw_p45 : lw_okq (⟨"WorkedBackModel", "agreesWith", "(II)Z"⟩, 26) := ⟨⟨by decide +kernel, by decide +kernel⟩, List.mem_of_getElem? (i := 1141) (by decide +kernel), List.mem_of_getElem? (i := 1367) (by decide +kernel), List.mem_of_getElem? (i := 1368) (by decide +kernel)⟩
theorem lw_p46 : lw_okq (⟨"WorkedBackModel", "firstNow", "()I"⟩, 26) := ⟨⟨by decide +kernel, by decide +kernel⟩, List.mem_of_getElem? (i := 1141) (by decide +kernel), List.mem_of_getElem? (i := 1390) (by decide +kernel), List.mem_of_getElem? (i := 1391) (by decide +kernel)⟩
theorem lw_p47 : lw_okq (⟨"WorkedBackModel", "changedFrom", "(II)I"⟩, 26) := ⟨⟨by decide +kernel, by decide +kernel⟩, List.mem_of_getElem? (i := 1141) (by decide +kernel), List.mem_of_getElem? (i := 1405) (by decide +kernel), List.mem_of_getElem? (i := 1406) (by decide +kernel)⟩
def lw_privs_3 : List (MethodName × Nat) := [(⟨"WorkedBackModel", "standOf", "()I"⟩, 26), (⟨"WorkedBackModel", "faultOf", "()I"⟩, 26), (⟨"WorkedBackModel", "boths", "()I"⟩, 26), (⟨"WorkedBackModel", "keeps", "(I)Z"⟩, 26), (⟨"WorkedBackModel", "goesBy", "(II)I"⟩, 26), (⟨"WorkedBackModel", "goes", "(IIIIII)I"⟩, 26), (⟨"WorkedBackModel", "needOf", "(IIII)I"⟩, 26), (⟨"WorkedBackModel", "isStoodIn", "(I)Z"⟩, 26), (⟨"WorkedBackModel", "pass", "(III)Z"⟩, 26), (⟨"WorkedBackModel", "lay", "()I"⟩, 26), (⟨"WorkedBackModel", "layThings", "()V"⟩, 26), (⟨"WorkedBackModel", "layThing", "(I)V"⟩, 26), (⟨"WorkedBackModel", "agreesWithAll", "(I)Z"⟩, 26), (⟨"WorkedBackModel", "agreesWith", "(II)Z"⟩, 26), (⟨"WorkedBackModel", "firstNow", "()I"⟩, 26), (⟨"WorkedBackModel", "changedFrom", "(II)I"⟩, 26)]
theorem lw_r3 : ∀ q ∈ lw_privs_3, lw_okq q := List.forall_mem_cons.mpr ⟨lw_p32, List.forall_mem_cons.mpr ⟨lw_p33, List.forall_mem_cons.mpr ⟨lw_p34, List.forall_mem_cons.mpr ⟨lw_p35, List.forall_mem_cons.mpr ⟨lw_p36, List.forall_mem_cons.mpr ⟨lw_p37, List.forall_mem_cons.mpr ⟨lw_p38, List.forall_mem_cons.mpr ⟨lw_p39, List.forall_mem_cons.mpr ⟨lw_p40, List.forall_mem_cons.mpr ⟨lw_p41, List.forall_mem_cons.mpr ⟨lw_p42, List.forall_mem_cons.mpr ⟨lw_p43, List.forall_mem_cons.mpr ⟨lw_p44, List.forall_mem_cons.mpr ⟨lw_p45, List.forall_mem_cons.mpr ⟨lw_p46, List.forall_mem_cons.mpr ⟨lw_p47, fun _ h => absurd h List.not_mem_nil⟩⟩⟩⟩⟩⟩⟩⟩⟩⟩⟩⟩⟩⟩⟩⟩
theorem lw_p48 : lw_okq (⟨"WorkedBackModel", "agreesChanged", "(IIIII)Z"⟩, 26) := ⟨⟨by decide +kernel, by decide +kernel⟩, List.mem_of_getElem? (i := 1141) (by decide +kernel), List.mem_of_getElem? (i := 1409) (by decide +kernel), List.mem_of_getElem? (i := 1410) (by decide +kernel)⟩
theorem lw_p49 : lw_okq (⟨"WorkedBackModel", "costOf", "(III)I"⟩, 26) := ⟨⟨by decide +kernel, by decide +kernel⟩, List.mem_of_getElem? (i := 1141) (by decide +kernel), List.mem_of_getElem? (i := 1417) (by decide +kernel), List.mem_of_getElem? (i := 1418) (by decide +kernel)⟩
theorem lw_p50 : lw_okq (⟨"WorkedBackModel", "layOpen", "(I)V"⟩, 26) := ⟨⟨by decide +kernel, by decide +kernel⟩, List.mem_of_getElem? (i := 1141) (by decide +kernel), List.mem_of_getElem? (i := 1433) (by decide +kernel), List.mem_of_getElem? (i := 1434) (by decide +kernel)⟩
theorem lw_p51 : lw_okq (⟨"WorkedBackModel", "mostBy", "(II)I"⟩, 26) := ⟨⟨by decide +kernel, by decide +kernel⟩, List.mem_of_getElem? (i := 1141) (by decide +kernel), List.mem_of_getElem? (i := 1437) (by decide +kernel), List.mem_of_getElem? (i := 1438) (by decide +kernel)⟩
theorem lw_p52 : lw_okq (⟨"WorkedBackModel", "countTried", "(I)I"⟩, 26) := ⟨⟨by decide +kernel, by decide +kernel⟩, List.mem_of_getElem? (i := 1141) (by decide +kernel), List.mem_of_getElem? (i := 1441) (by decide +kernel), List.mem_of_getElem? (i := 1442) (by decide +kernel)⟩
def lw_privs_4 : List (MethodName × Nat) := [(⟨"WorkedBackModel", "agreesChanged", "(IIIII)Z"⟩, 26), (⟨"WorkedBackModel", "costOf", "(III)I"⟩, 26), (⟨"WorkedBackModel", "layOpen", "(I)V"⟩, 26), (⟨"WorkedBackModel", "mostBy", "(II)I"⟩, 26), (⟨"WorkedBackModel", "countTried", "(I)I"⟩, 26)]
theorem lw_r4 : ∀ q ∈ lw_privs_4, lw_okq q := List.forall_mem_cons.mpr ⟨lw_p48, List.forall_mem_cons.mpr ⟨lw_p49, List.forall_mem_cons.mpr ⟨lw_p50, List.forall_mem_cons.mpr ⟨lw_p51, List.forall_mem_cons.mpr ⟨lw_p52, fun _ h => absurd h List.not_mem_nil⟩⟩⟩⟩⟩
def lw_privs : List (MethodName × Nat) := lw_privs_1 ++ (lw_privs_2 ++ (lw_privs_3 ++ (lw_privs_4)))
def lw_tbl : List Cond := k2_sels lw_privs ++ tables_1
theorem lw_privs_ok : ∀ q ∈ lw_privs, lw_okq q := by
  show ∀ q ∈ lw_privs_1 ++ (lw_privs_2 ++ (lw_privs_3 ++ (lw_privs_4))), lw_okq q
  exact List.forall_mem_append.mpr ⟨lw_r1, List.forall_mem_append.mpr ⟨lw_r2, List.forall_mem_append.mpr ⟨lw_r3, lw_r4⟩⟩⟩
def RX0 : String := "WorkedBack$Book"
def TX0 : u_T := fun k => match k with
  | 0 => ("WorkedBack$Book", "months", "I", false)
  | 1 => ("WorkedBack$Book", "cells", "[I", true)
  | 2 => ("WorkedBack$Book", "stocks", "[I", true)
  | 3 => ("WorkedBack$Book", "stander", "I", false)
  | 4 => ("WorkedBack$Book", "stoodFor", "I", false)
  | 5 => ("WorkedBack$Book", "boths", "I", false)
  | 6 => ("WorkedBack$Book", "kept", "LWorkedBack$Mixtures;", true)
  | _ => ("WorkedBack$Book", "turn", "I", false)
def tyX0 : Nat → FieldType := fun k => match k with
  | 0 => .int
  | 1 => .array .int
  | 2 => .array .int
  | 3 => .int
  | 4 => .int
  | 5 => .int
  | 6 => .object "WorkedBack$Mixtures"
  | _ => .int
abbrev wsX00 : List Cond := u_ws RX0 TX0 8
theorem nmX0 : ∀ a, a < 8 → ∀ b, b < 8 → a ≠ b → (TX0 a).2.1 ≠ (TX0 b).2.1 := by decide +kernel
theorem tyX0_ok : ∀ k, k < 8 → parseFieldDescriptor (TX0 k).2.2.1 = some (tyX0 k) := by decide +kernel
abbrev cX0_init : ByteArray := prog_2_method_1_code
def yX0_init : MethodName := ⟨RX0, "<init>", "()V"⟩
abbrev cX0_copy : ByteArray := prog_2_method_2_code
def yX0_copy : MethodName := ⟨RX0, "copy", "(LWorkedBack$Book;)V"⟩
abbrev cX0_addMonth : ByteArray := prog_2_method_3_code
def yX0_addMonth : MethodName := ⟨RX0, "addMonth", "()I"⟩
abbrev cX0_dropMonth : ByteArray := prog_2_method_4_code
def yX0_dropMonth : MethodName := ⟨RX0, "dropMonth", "()I"⟩
abbrev cX0_cell : ByteArray := prog_2_method_5_code
def yX0_cell : MethodName := ⟨RX0, "cell", "(II)I"⟩
abbrev cX0_setCell : ByteArray := prog_2_method_6_code
def yX0_setCell : MethodName := ⟨RX0, "setCell", "(III)V"⟩
abbrev cX0_stockCell : ByteArray := prog_2_method_7_code
def yX0_stockCell : MethodName := ⟨RX0, "stockCell", "(II)I"⟩
abbrev cX0_setStockCell : ByteArray := prog_2_method_8_code
def yX0_setStockCell : MethodName := ⟨RX0, "setStockCell", "(III)V"⟩
abbrev cX0_standing : ByteArray := prog_2_method_9_code
def yX0_standing : MethodName := ⟨RX0, "standing", "()I"⟩
abbrev cX0_setStanding : ByteArray := prog_2_method_10_code
def yX0_setStanding : MethodName := ⟨RX0, "setStanding", "(II)V"⟩
abbrev cX0_setBoths : ByteArray := prog_2_method_11_code
def yX0_setBoths : MethodName := ⟨RX0, "setBoths", "(I)V"⟩
abbrev cX0_standsIn : ByteArray := prog_2_method_12_code
def yX0_standsIn : MethodName := ⟨RX0, "standsIn", "(I)Z"⟩
abbrev cX0_guestOf : ByteArray := prog_2_method_13_code
def yX0_guestOf : MethodName := ⟨RX0, "guestOf", "(I)I"⟩
abbrev cX0_ownNeed : ByteArray := prog_2_method_14_code
def yX0_ownNeed : MethodName := ⟨RX0, "ownNeed", "(III)I"⟩
abbrev cX0_guestNeed : ByteArray := prog_2_method_15_code
def yX0_guestNeed : MethodName := ⟨RX0, "guestNeed", "(III)I"⟩
abbrev cX0_needOfPair : ByteArray := prog_2_method_16_code
def yX0_needOfPair : MethodName := ⟨RX0, "needOfPair", "(II)I"⟩
abbrev cX0_neededBy : ByteArray := prog_2_method_17_code
def yX0_neededBy : MethodName := ⟨RX0, "neededBy", "(III)I"⟩
abbrev cX0_priceOf : ByteArray := prog_2_method_18_code
def yX0_priceOf : MethodName := ⟨RX0, "priceOf", "(II)I"⟩
def RX1 : String := "WorkedBack$Break"
def TX1 : u_T := fun k => match k with
  | 0 => ("WorkedBack$Break", "works", "LWorkedBack$Works;", true)
  | 1 => ("WorkedBack$Break", "mesh", "LWorkedBack$Mesh;", true)
  | 2 => ("WorkedBack$Break", "starts", "LWorkedBack$Mixtures;", true)
  | 3 => ("WorkedBack$Break", "laters", "[I", true)
  | 4 => ("WorkedBack$Break", "partner", "I", false)
  | 5 => ("WorkedBack$Break", "turn", "I", false)
  | 6 => ("WorkedBack$Break", "month", "I", false)
  | 7 => ("WorkedBack$Break", "thing", "I", false)
  | 8 => ("WorkedBack$Break", "before", "I", false)
  | _ => ("WorkedBack$Break", "behind", "I", false)
def tyX1 : Nat → FieldType := fun k => match k with
  | 0 => .object "WorkedBack$Works"
  | 1 => .object "WorkedBack$Mesh"
  | 2 => .object "WorkedBack$Mixtures"
  | 3 => .array .int
  | 4 => .int
  | 5 => .int
  | 6 => .int
  | 7 => .int
  | 8 => .int
  | _ => .int
abbrev wsX10 : List Cond := u_ws RX1 TX1 10
theorem nmX1 : ∀ a, a < 10 → ∀ b, b < 10 → a ≠ b → (TX1 a).2.1 ≠ (TX1 b).2.1 := by decide +kernel
theorem tyX1_ok : ∀ k, k < 10 → parseFieldDescriptor (TX1 k).2.2.1 = some (tyX1 k) := by decide +kernel
abbrev cX1_init : ByteArray := prog_3_method_1_code
def yX1_init : MethodName := ⟨RX1, "<init>", "(LWorkedBack$Works;)V"⟩
abbrev cX1_seek : ByteArray := prog_3_method_2_code
def yX1_seek : MethodName := ⟨RX1, "seek", "()V"⟩
abbrev cX1_partnerOf : ByteArray := prog_3_method_3_code
def yX1_partnerOf : MethodName := ⟨RX1, "partnerOf", "(I)I"⟩
abbrev cX1_hasLaters : ByteArray := prog_3_method_4_code
def yX1_hasLaters : MethodName := ⟨RX1, "hasLaters", "(II)Z"⟩
abbrev cX1_latersOf : ByteArray := prog_3_method_5_code
def yX1_latersOf : MethodName := ⟨RX1, "latersOf", "(III)I"⟩
abbrev cX1_latersWith : ByteArray := prog_3_method_6_code
def yX1_latersWith : MethodName := ⟨RX1, "latersWith", "(IIIII)I"⟩
abbrev cX1_hasStarts : ByteArray := prog_3_method_7_code
def yX1_hasStarts : MethodName := ⟨RX1, "hasStarts", "(I)Z"⟩
abbrev cX1_isFound : ByteArray := prog_3_method_8_code
def yX1_isFound : MethodName := ⟨RX1, "isFound", "(I)Z"⟩
abbrev cX1_isFoundFrom : ByteArray := prog_3_method_9_code
def yX1_isFoundFrom : MethodName := ⟨RX1, "isFoundFrom", "(II)Z"⟩
def RX2 : String := "WorkedBack$Course"
def TX2 : u_T := fun k => match k with
  | 0 => ("WorkedBack$Course", "room", "I", true)
  | 1 => ("WorkedBack$Course", "need", "[I", true)
  | 2 => ("WorkedBack$Course", "ownNeeds", "[I", true)
  | 3 => ("WorkedBack$Course", "guestNeeds", "[I", true)
  | 4 => ("WorkedBack$Course", "ahead", "[I", true)
  | 5 => ("WorkedBack$Course", "onward", "[I", true)
  | 6 => ("WorkedBack$Course", "mesh", "LWorkedBack$Mesh;", true)
  | 7 => ("WorkedBack$Course", "thing", "I", false)
  | 8 => ("WorkedBack$Course", "guest", "I", false)
  | _ => ("WorkedBack$Course", "keys", "I", false)
def tyX2 : Nat → FieldType := fun k => match k with
  | 0 => .int
  | 1 => .array .int
  | 2 => .array .int
  | 3 => .array .int
  | 4 => .array .int
  | 5 => .array .int
  | 6 => .object "WorkedBack$Mesh"
  | 7 => .int
  | 8 => .int
  | _ => .int
abbrev wsX20 : List Cond := u_ws RX2 TX2 10
theorem nmX2 : ∀ a, a < 10 → ∀ b, b < 10 → a ≠ b → (TX2 a).2.1 ≠ (TX2 b).2.1 := by decide +kernel
theorem tyX2_ok : ∀ k, k < 10 → parseFieldDescriptor (TX2 k).2.2.1 = some (tyX2 k) := by decide +kernel
abbrev cX2_init : ByteArray := prog_4_method_1_code
def yX2_init : MethodName := ⟨RX2, "<init>", "(LWorkedBack$Parts;I)V"⟩
abbrev cX2_set : ByteArray := prog_4_method_2_code
def yX2_set : MethodName := ⟨RX2, "set", "(LWorkedBack$Book;II)V"⟩
abbrev cX2_setNeeds : ByteArray := prog_4_method_3_code
def yX2_setNeeds : MethodName := ⟨RX2, "setNeeds", "(LWorkedBack$Book;I)V"⟩
abbrev cX2_strain : ByteArray := prog_4_method_4_code
def yX2_strain : MethodName := ⟨RX2, "strain", "(LWorkedBack$Flow;)V"⟩
abbrev cX2_goesThrough : ByteArray := prog_4_method_5_code
def yX2_goesThrough : MethodName := ⟨RX2, "goesThrough", "(LWorkedBack$Flow;I)Z"⟩
abbrev cX2_chart : ByteArray := prog_4_method_6_code
def yX2_chart : MethodName := ⟨RX2, "chart", "(LWorkedBack$Flow;)V"⟩
abbrev cX2_chartAhead : ByteArray := prog_4_method_7_code
def yX2_chartAhead : MethodName := ⟨RX2, "chartAhead", "(LWorkedBack$Flow;I)V"⟩
abbrev cX2_chartOnward : ByteArray := prog_4_method_8_code
def yX2_chartOnward : MethodName := ⟨RX2, "chartOnward", "(LWorkedBack$Flow;I)V"⟩
abbrev cX2_needAt : ByteArray := prog_4_method_9_code
def yX2_needAt : MethodName := ⟨RX2, "needAt", "(II)I"⟩
abbrev cX2_aheadOf : ByteArray := prog_4_method_10_code
def yX2_aheadOf : MethodName := ⟨RX2, "aheadOf", "(II)I"⟩
abbrev cX2_onwardFrom : ByteArray := prog_4_method_11_code
def yX2_onwardFrom : MethodName := ⟨RX2, "onwardFrom", "(II)I"⟩
abbrev cX2_isPlace : ByteArray := prog_4_method_12_code
def yX2_isPlace : MethodName := ⟨RX2, "isPlace", "(II)Z"⟩
abbrev cX2_onwardPairs : ByteArray := prog_4_method_13_code
def yX2_onwardPairs : MethodName := ⟨RX2, "onwardPairs", "(IIIII)I"⟩
def RX3 : String := "WorkedBack$Flow"
def TX3 : u_T := fun k => match k with
  | 0 => ("WorkedBack$Flow", "months", "I", false)
  | 1 => ("WorkedBack$Flow", "leastIn", "[I", true)
  | 2 => ("WorkedBack$Flow", "mostIn", "[I", true)
  | 3 => ("WorkedBack$Flow", "firstLeast", "I", false)
  | 4 => ("WorkedBack$Flow", "firstMost", "I", false)
  | 5 => ("WorkedBack$Flow", "holds", "I", false)
  | 6 => ("WorkedBack$Flow", "lost", "I", false)
  | 7 => ("WorkedBack$Flow", "low", "I", false)
  | _ => ("WorkedBack$Flow", "high", "I", false)
def tyX3 : Nat → FieldType := fun k => match k with
  | 0 => .int
  | 1 => .array .int
  | 2 => .array .int
  | 3 => .int
  | 4 => .int
  | 5 => .int
  | 6 => .int
  | 7 => .int
  | _ => .int
abbrev wsX30 : List Cond := u_ws RX3 TX3 9
theorem nmX3 : ∀ a, a < 9 → ∀ b, b < 9 → a ≠ b → (TX3 a).2.1 ≠ (TX3 b).2.1 := by decide +kernel
theorem tyX3_ok : ∀ k, k < 9 → parseFieldDescriptor (TX3 k).2.2.1 = some (tyX3 k) := by decide +kernel
abbrev cX3_init : ByteArray := prog_5_method_1_code
def yX3_init : MethodName := ⟨RX3, "<init>", "()V"⟩
abbrev cX3_set : ByteArray := prog_5_method_2_code
def yX3_set : MethodName := ⟨RX3, "set", "(LWorkedBack$Book;III)V"⟩
abbrev cX3_begin : ByteArray := prog_5_method_3_code
def yX3_begin : MethodName := ⟨RX3, "begin", "()V"⟩
abbrev cX3_go : ByteArray := prog_5_method_4_code
def yX3_go : MethodName := ⟨RX3, "go", "(II)Z"⟩
abbrev cX3_beginBehind : ByteArray := prog_5_method_5_code
def yX3_beginBehind : MethodName := ⟨RX3, "beginBehind", "()V"⟩
abbrev cX3_goBack : ByteArray := prog_5_method_6_code
def yX3_goBack : MethodName := ⟨RX3, "goBack", "(II)Z"⟩
def RX4 : String := "WorkedBack$Mesh"
def TX4 : u_T := fun k => match k with
  | 0 => ("WorkedBack$Mesh", "parts", "LWorkedBack$Parts;", true)
  | 1 => ("WorkedBack$Mesh", "low", "[J", true)
  | 2 => ("WorkedBack$Mesh", "high", "[J", true)
  | 3 => ("WorkedBack$Mesh", "thing", "I", false)
  | _ => ("WorkedBack$Mesh", "other", "I", false)
def tyX4 : Nat → FieldType := fun k => match k with
  | 0 => .object "WorkedBack$Parts"
  | 1 => .array .long
  | 2 => .array .long
  | 3 => .int
  | _ => .int
abbrev wsX40 : List Cond := u_ws RX4 TX4 5
theorem nmX4 : ∀ a, a < 5 → ∀ b, b < 5 → a ≠ b → (TX4 a).2.1 ≠ (TX4 b).2.1 := by decide +kernel
theorem tyX4_ok : ∀ k, k < 5 → parseFieldDescriptor (TX4 k).2.2.1 = some (tyX4 k) := by decide +kernel
abbrev cX4_init : ByteArray := prog_6_method_1_code
def yX4_init : MethodName := ⟨RX4, "<init>", "(LWorkedBack$Parts;)V"⟩
abbrev cX4_close : ByteArray := prog_6_method_2_code
def yX4_close : MethodName := ⟨RX4, "close", "(II)V"⟩
abbrev cX4_pass : ByteArray := prog_6_method_3_code
def yX4_pass : MethodName := ⟨RX4, "pass", "(II)V"⟩
abbrev cX4_narrow : ByteArray := prog_6_method_4_code
def yX4_narrow : MethodName := ⟨RX4, "narrow", "(LWorkedBack$Mixtures;)V"⟩
def RX5 : String := "WorkedBack$Mixtures"
def TX5 : u_T := fun k => match k with
  | _ => ("WorkedBack$Mixtures", "words", "[J", true)
def tyX5 : Nat → FieldType := fun k => match k with
  | _ => .array .long
abbrev wsX50 : List Cond := u_ws RX5 TX5 1
theorem nmX5 : ∀ a, a < 1 → ∀ b, b < 1 → a ≠ b → (TX5 a).2.1 ≠ (TX5 b).2.1 := by decide +kernel
theorem tyX5_ok : ∀ k, k < 1 → parseFieldDescriptor (TX5 k).2.2.1 = some (tyX5 k) := by decide +kernel
abbrev cX5_init : ByteArray := prog_7_method_1_code
def yX5_init : MethodName := ⟨RX5, "<init>", "()V"⟩
abbrev cX5_low : ByteArray := prog_7_method_2_code
def yX5_low : MethodName := ⟨RX5, "low", "(I)J"⟩
abbrev cX5_high : ByteArray := prog_7_method_3_code
def yX5_high : MethodName := ⟨RX5, "high", "(I)J"⟩
abbrev cX5_addAll : ByteArray := prog_7_method_4_code
def yX5_addAll : MethodName := ⟨RX5, "addAll", "()V"⟩
abbrev cX5_removeAll : ByteArray := prog_7_method_5_code
def yX5_removeAll : MethodName := ⟨RX5, "removeAll", "()V"⟩
abbrev cX5_copy : ByteArray := prog_7_method_6_code
def yX5_copy : MethodName := ⟨RX5, "copy", "(LWorkedBack$Mixtures;)V"⟩
abbrev cX5_join : ByteArray := prog_7_method_7_code
def yX5_join : MethodName := ⟨RX5, "join", "(LWorkedBack$Mixtures;)V"⟩
abbrev cX5_narrow : ByteArray := prog_7_method_8_code
def yX5_narrow : MethodName := ⟨RX5, "narrow", "(IJJ)V"⟩
abbrev cX5_has : ByteArray := prog_7_method_9_code
def yX5_has : MethodName := ⟨RX5, "has", "(I)Z"⟩
abbrev cX5_count : ByteArray := prog_7_method_10_code
def yX5_count : MethodName := ⟨RX5, "count", "()I"⟩
abbrev cX5_next : ByteArray := prog_7_method_11_code
def yX5_next : MethodName := ⟨RX5, "next", "(I)I"⟩
abbrev cX5_nth : ByteArray := prog_7_method_12_code
def yX5_nth : MethodName := ⟨RX5, "nth", "(I)I"⟩
abbrev cX5_withoutLowest : ByteArray := prog_7_method_13_code
def yX5_withoutLowest : MethodName := ⟨RX5, "withoutLowest", "(JI)J"⟩
abbrev cX5_wordOf : ByteArray := prog_7_method_14_code
def yX5_wordOf : MethodName := ⟨RX5, "wordOf", "(I)I"⟩
abbrev cX5_bitOf : ByteArray := prog_7_method_15_code
def yX5_bitOf : MethodName := ⟨RX5, "bitOf", "(I)I"⟩
abbrev cX5_numberOf : ByteArray := prog_7_method_16_code
def yX5_numberOf : MethodName := ⟨RX5, "numberOf", "(IJ)I"⟩
def RX6 : String := "WorkedBack$Parts"
def TX6 : u_T := fun k => match k with
  | 0 => ("WorkedBack$Parts", "low", "[J", true)
  | 1 => ("WorkedBack$Parts", "high", "[J", true)
  | 2 => ("WorkedBack$Parts", "fewLow", "[J", true)
  | _ => ("WorkedBack$Parts", "fewHigh", "[J", true)
def tyX6 : Nat → FieldType := fun k => match k with
  | 0 => .array .long
  | 1 => .array .long
  | 2 => .array .long
  | _ => .array .long
abbrev wsX60 : List Cond := u_ws RX6 TX6 4
theorem nmX6 : ∀ a, a < 4 → ∀ b, b < 4 → a ≠ b → (TX6 a).2.1 ≠ (TX6 b).2.1 := by decide +kernel
theorem tyX6_ok : ∀ k, k < 4 → parseFieldDescriptor (TX6 k).2.2.1 = some (tyX6 k) := by decide +kernel
abbrev cX6_init : ByteArray := prog_8_method_1_code
def yX6_init : MethodName := ⟨RX6, "<init>", "()V"⟩
abbrev cX6_lowWith : ByteArray := prog_8_method_2_code
def yX6_lowWith : MethodName := ⟨RX6, "lowWith", "(II)J"⟩
abbrev cX6_highWith : ByteArray := prog_8_method_3_code
def yX6_highWith : MethodName := ⟨RX6, "highWith", "(II)J"⟩
abbrev cX6_lowOfThings : ByteArray := prog_8_method_4_code
def yX6_lowOfThings : MethodName := ⟨RX6, "lowOfThings", "(I)J"⟩
abbrev cX6_highOfThings : ByteArray := prog_8_method_5_code
def yX6_highOfThings : MethodName := ⟨RX6, "highOfThings", "(I)J"⟩
def RX7 : String := "WorkedBack$Search"
def TX7 : u_T := fun k => match k with
  | 0 => ("WorkedBack$Search", "works", "LWorkedBack$Works;", true)
  | 1 => ("WorkedBack$Search", "nearTurn", "I", false)
  | 2 => ("WorkedBack$Search", "nearBy", "I", false)
  | 3 => ("WorkedBack$Search", "nearFirst", "I", false)
  | 4 => ("WorkedBack$Search", "doubtTurn", "I", false)
  | 5 => ("WorkedBack$Search", "doubtBits", "I", false)
  | _ => ("WorkedBack$Search", "doubtFirst", "I", false)
def tyX7 : Nat → FieldType := fun k => match k with
  | 0 => .object "WorkedBack$Works"
  | 1 => .int
  | 2 => .int
  | 3 => .int
  | 4 => .int
  | 5 => .int
  | _ => .int
abbrev wsX70 : List Cond := u_ws RX7 TX7 7
theorem nmX7 : ∀ a, a < 7 → ∀ b, b < 7 → a ≠ b → (TX7 a).2.1 ≠ (TX7 b).2.1 := by decide +kernel
theorem tyX7_ok : ∀ k, k < 7 → parseFieldDescriptor (TX7 k).2.2.1 = some (tyX7 k) := by decide +kernel
abbrev cX7_init : ByteArray := prog_9_method_1_code
def yX7_init : MethodName := ⟨RX7, "<init>", "(LWorkedBack$Works;)V"⟩
abbrev cX7_seekNear : ByteArray := prog_9_method_2_code
def yX7_seekNear : MethodName := ⟨RX7, "seekNear", "()V"⟩
abbrev cX7_leastMore : ByteArray := prog_9_method_3_code
def yX7_leastMore : MethodName := ⟨RX7, "leastMore", "()I"⟩
abbrev cX7_seekDoubt : ByteArray := prog_9_method_4_code
def yX7_seekDoubt : MethodName := ⟨RX7, "seekDoubt", "()V"⟩
abbrev cX7_seekDoubtOf : ByteArray := prog_9_method_5_code
def yX7_seekDoubtOf : MethodName := ⟨RX7, "seekDoubtOf", "(I)V"⟩
def RX8 : String := "WorkedBack$Text"
def TX8 : u_T := fun k => match k with
  | 0 => ("WorkedBack$Text", "signs", "[I", true)
  | 1 => ("WorkedBack$Text", "count", "I", false)
  | 2 => ("WorkedBack$Text", "both", "LWorkedBack$Mixtures;", true)
  | 3 => ("WorkedBack$Text", "timesInP", "[I", true)
  | 4 => ("WorkedBack$Text", "timesInQ", "[I", true)
  | 5 => ("WorkedBack$Text", "belowLow", "[J", true)
  | 6 => ("WorkedBack$Text", "belowHigh", "[J", true)
  | 7 => ("WorkedBack$Text", "ware", "I", false)
  | 8 => ("WorkedBack$Text", "relation", "I", false)
  | _ => ("WorkedBack$Text", "number", "I", false)
def tyX8 : Nat → FieldType := fun k => match k with
  | 0 => .array .int
  | 1 => .int
  | 2 => .object "WorkedBack$Mixtures"
  | 3 => .array .int
  | 4 => .array .int
  | 5 => .array .long
  | 6 => .array .long
  | 7 => .int
  | 8 => .int
  | _ => .int
abbrev wsX80 : List Cond := u_ws RX8 TX8 10
theorem nmX8 : ∀ a, a < 10 → ∀ b, b < 10 → a ≠ b → (TX8 a).2.1 ≠ (TX8 b).2.1 := by decide +kernel
theorem tyX8_ok : ∀ k, k < 10 → parseFieldDescriptor (TX8 k).2.2.1 = some (tyX8 k) := by decide +kernel
abbrev cX8_init : ByteArray := prog_10_method_1_code
def yX8_init : MethodName := ⟨RX8, "<init>", "()V"⟩
abbrev cX8_add : ByteArray := prog_10_method_2_code
def yX8_add : MethodName := ⟨RX8, "add", "(I)Z"⟩
abbrev cX8_empty : ByteArray := prog_10_method_3_code
def yX8_empty : MethodName := ⟨RX8, "empty", "()I"⟩
abbrev cX8_firstFault : ByteArray := prog_10_method_4_code
def yX8_firstFault : MethodName := ⟨RX8, "firstFault", "()I"⟩
abbrev cX8_behind : ByteArray := prog_10_method_5_code
def yX8_behind : MethodName := ⟨RX8, "behind", "(II)I"⟩
abbrev cX8_isDigit : ByteArray := prog_10_method_6_code
def yX8_isDigit : MethodName := ⟨RX8, "isDigit", "(I)Z"⟩
abbrev cX8_isRelation : ByteArray := prog_10_method_7_code
def yX8_isRelation : MethodName := ⟨RX8, "isRelation", "(I)Z"⟩
abbrev cX8_isLink : ByteArray := prog_10_method_8_code
def yX8_isLink : MethodName := ⟨RX8, "isLink", "(I)Z"⟩
abbrev cX8_collect : ByteArray := prog_10_method_9_code
def yX8_collect : MethodName := ⟨RX8, "collect", "(LWorkedBack$Mixtures;)I"⟩
abbrev cX8_beginTest : ByteArray := prog_10_method_10_code
def yX8_beginTest : MethodName := ⟨RX8, "beginTest", "()V"⟩
abbrev cX8_readOn : ByteArray := prog_10_method_11_code
def yX8_readOn : MethodName := ⟨RX8, "readOn", "(I)V"⟩
abbrev cX8_endTest : ByteArray := prog_10_method_12_code
def yX8_endTest : MethodName := ⟨RX8, "endTest", "()V"⟩
abbrev cX8_setBelow : ByteArray := prog_10_method_13_code
def yX8_setBelow : MethodName := ⟨RX8, "setBelow", "()V"⟩
abbrev cX8_sumOf : ByteArray := prog_10_method_14_code
def yX8_sumOf : MethodName := ⟨RX8, "sumOf", "([II)I"⟩
abbrev cX8_narrowBoth : ByteArray := prog_10_method_15_code
def yX8_narrowBoth : MethodName := ⟨RX8, "narrowBoth", "(II)V"⟩
def RX9 : String := "WorkedBack$Weighing"
def TX9 : u_T := fun k => match k with
  | 0 => ("WorkedBack$Weighing", "works", "LWorkedBack$Works;", true)
  | 1 => ("WorkedBack$Weighing", "others", "LWorkedBack$Mixtures;", true)
  | 2 => ("WorkedBack$Weighing", "weights", "[I", true)
  | 3 => ("WorkedBack$Weighing", "counts", "[I", true)
  | 4 => ("WorkedBack$Weighing", "mosts", "[I", true)
  | 5 => ("WorkedBack$Weighing", "fitting", "[I", true)
  | _ => ("WorkedBack$Weighing", "turn", "I", false)
def tyX9 : Nat → FieldType := fun k => match k with
  | 0 => .object "WorkedBack$Works"
  | 1 => .object "WorkedBack$Mixtures"
  | 2 => .array .int
  | 3 => .array .int
  | 4 => .array .int
  | 5 => .array .int
  | _ => .int
abbrev wsX90 : List Cond := u_ws RX9 TX9 7
theorem nmX9 : ∀ a, a < 7 → ∀ b, b < 7 → a ≠ b → (TX9 a).2.1 ≠ (TX9 b).2.1 := by decide +kernel
theorem tyX9_ok : ∀ k, k < 7 → parseFieldDescriptor (TX9 k).2.2.1 = some (tyX9 k) := by decide +kernel
abbrev cX9_init : ByteArray := prog_11_method_1_code
def yX9_init : MethodName := ⟨RX9, "<init>", "(LWorkedBack$Works;)V"⟩
abbrev cX9_settling : ByteArray := prog_11_method_2_code
def yX9_settling : MethodName := ⟨RX9, "settling", "()I"⟩
abbrev cX9_mostLeft : ByteArray := prog_11_method_3_code
def yX9_mostLeft : MethodName := ⟨RX9, "mostLeft", "(I)I"⟩
abbrev cX9_hiding : ByteArray := prog_11_method_4_code
def yX9_hiding : MethodName := ⟨RX9, "hiding", "(I)I"⟩
abbrev cX9_isBetter : ByteArray := prog_11_method_5_code
def yX9_isBetter : MethodName := ⟨RX9, "isBetter", "(IIII)Z"⟩
abbrev cX9_hidden : ByteArray := prog_11_method_6_code
def yX9_hidden : MethodName := ⟨RX9, "hidden", "(I)I"⟩
abbrev cX9_weighAll : ByteArray := prog_11_method_7_code
def yX9_weighAll : MethodName := ⟨RX9, "weighAll", "()V"⟩
abbrev cX9_weigh : ByteArray := prog_11_method_8_code
def yX9_weigh : MethodName := ⟨RX9, "weigh", "(LWorkedBack$Course;II)V"⟩
abbrev cX9_count : ByteArray := prog_11_method_9_code
def yX9_count : MethodName := ⟨RX9, "count", "(LWorkedBack$Course;IIII)V"⟩
abbrev cX9_countKey : ByteArray := prog_11_method_10_code
def yX9_countKey : MethodName := ⟨RX9, "countKey", "(LWorkedBack$Course;IIIII)V"⟩
abbrev cX9_setWeights : ByteArray := prog_11_method_11_code
def yX9_setWeights : MethodName := ⟨RX9, "setWeights", "(I)V"⟩
abbrev cX9_addWeights : ByteArray := prog_11_method_12_code
def yX9_addWeights : MethodName := ⟨RX9, "addWeights", "(III)V"⟩
abbrev cX9_addGuestWeights : ByteArray := prog_11_method_13_code
def yX9_addGuestWeights : MethodName := ⟨RX9, "addGuestWeights", "(IIIJJ)V"⟩
def RX10 : String := "WorkedBack$Works"
def TX10 : u_T := fun k => match k with
  | 0 => ("WorkedBack$Works", "book", "LWorkedBack$Book;", true)
  | 1 => ("WorkedBack$Works", "parts", "LWorkedBack$Parts;", true)
  | 2 => ("WorkedBack$Works", "flow", "LWorkedBack$Flow;", true)
  | 3 => ("WorkedBack$Works", "narrow", "[LWorkedBack$Course;", true)
  | 4 => ("WorkedBack$Works", "wide", "LWorkedBack$Course;", true)
  | 5 => ("WorkedBack$Works", "fitting", "LWorkedBack$Mixtures;", true)
  | 6 => ("WorkedBack$Works", "tried", "LWorkedBack$Mixtures;", true)
  | 7 => ("WorkedBack$Works", "madeLow", "[J", true)
  | 8 => ("WorkedBack$Works", "madeHigh", "[J", true)
  | 9 => ("WorkedBack$Works", "holder", "I", false)
  | 10 => ("WorkedBack$Works", "turn", "I", false)
  | 11 => ("WorkedBack$Works", "chartTurn", "I", false)
  | _ => ("WorkedBack$Works", "meshTurn", "I", false)
def tyX10 : Nat → FieldType := fun k => match k with
  | 0 => .object "WorkedBack$Book"
  | 1 => .object "WorkedBack$Parts"
  | 2 => .object "WorkedBack$Flow"
  | 3 => .array (.object "WorkedBack$Course")
  | 4 => .object "WorkedBack$Course"
  | 5 => .object "WorkedBack$Mixtures"
  | 6 => .object "WorkedBack$Mixtures"
  | 7 => .array .long
  | 8 => .array .long
  | 9 => .int
  | 10 => .int
  | 11 => .int
  | _ => .int
abbrev wsX100 : List Cond := u_ws RX10 TX10 13
theorem nmX10 : ∀ a, a < 13 → ∀ b, b < 13 → a ≠ b → (TX10 a).2.1 ≠ (TX10 b).2.1 := by decide +kernel
theorem tyX10_ok : ∀ k, k < 13 → parseFieldDescriptor (TX10 k).2.2.1 = some (tyX10 k) := by decide +kernel
abbrev cX10_init : ByteArray := prog_12_method_1_code
def yX10_init : MethodName := ⟨RX10, "<init>", "(LWorkedBack$Book;)V"⟩
abbrev cX10_course : ByteArray := prog_12_method_2_code
def yX10_course : MethodName := ⟨RX10, "course", "(I)LWorkedBack$Course;"⟩
abbrev cX10_update : ByteArray := prog_12_method_3_code
def yX10_update : MethodName := ⟨RX10, "update", "()V"⟩
abbrev cX10_strain : ByteArray := prog_12_method_4_code
def yX10_strain : MethodName := ⟨RX10, "strain", "()V"⟩
abbrev cX10_firstBy : ByteArray := prog_12_method_5_code
def yX10_firstBy : MethodName := ⟨RX10, "firstBy", "(II)I"⟩
abbrev cX10_sift : ByteArray := prog_12_method_6_code
def yX10_sift : MethodName := ⟨RX10, "sift", "(LWorkedBack$Mixtures;I)V"⟩
abbrev cX10_chart : ByteArray := prog_12_method_7_code
def yX10_chart : MethodName := ⟨RX10, "chart", "()V"⟩
abbrev cX10_first : ByteArray := prog_12_method_8_code
def yX10_first : MethodName := ⟨RX10, "first", "()I"⟩
abbrev cX10_goesTill : ByteArray := prog_12_method_9_code
def yX10_goesTill : MethodName := ⟨RX10, "goesTill", "(III)I"⟩
abbrev cX10_judged : ByteArray := prog_12_method_10_code
def yX10_judged : MethodName := ⟨RX10, "judged", "(I)I"⟩
abbrev cX10_setMade : ByteArray := prog_12_method_11_code
def yX10_setMade : MethodName := ⟨RX10, "setMade", "()V"⟩
abbrev cX10_amounts : ByteArray := prog_12_method_12_code
def yX10_amounts : MethodName := ⟨RX10, "amounts", "(II)I"⟩
abbrev cX10_inEvery : ByteArray := prog_12_method_13_code
def yX10_inEvery : MethodName := ⟨RX10, "inEvery", "()I"⟩
abbrev cX10_inNone : ByteArray := prog_12_method_14_code
def yX10_inNone : MethodName := ⟨RX10, "inNone", "()I"⟩
abbrev cX10_plainest : ByteArray := prog_12_method_15_code
def yX10_plainest : MethodName := ⟨RX10, "plainest", "()I"⟩
abbrev cX10_firstWith : ByteArray := prog_12_method_16_code
def yX10_firstWith : MethodName := ⟨RX10, "firstWith", "(II)I"⟩
abbrev cX10_endOfPrices : ByteArray := prog_12_method_17_code
def yX10_endOfPrices : MethodName := ⟨RX10, "endOfPrices", "(III)I"⟩
abbrev cX10_pairs : ByteArray := prog_12_method_18_code
def yX10_pairs : MethodName := ⟨RX10, "pairs", "(I)I"⟩
def RX11 : String := "WorkedBack"
def TX11 : u_T := fun k => match k with
  | 0 => ("WorkedBack", "book", "LWorkedBack$Book;", true)
  | 1 => ("WorkedBack", "images", "[LWorkedBack$Book;", true)
  | 2 => ("WorkedBack", "imaged", "[Z", true)
  | 3 => ("WorkedBack", "text", "LWorkedBack$Text;", true)
  | 4 => ("WorkedBack", "works", "LWorkedBack$Works;", true)
  | 5 => ("WorkedBack", "search", "LWorkedBack$Search;", true)
  | 6 => ("WorkedBack", "broken", "LWorkedBack$Break;", true)
  | _ => ("WorkedBack", "weighing", "LWorkedBack$Weighing;", true)
def tyX11 : Nat → FieldType := fun k => match k with
  | 0 => .object "WorkedBack$Book"
  | 1 => .array (.object "WorkedBack$Book")
  | 2 => .array .boolean
  | 3 => .object "WorkedBack$Text"
  | 4 => .object "WorkedBack$Works"
  | 5 => .object "WorkedBack$Search"
  | 6 => .object "WorkedBack$Break"
  | _ => .object "WorkedBack$Weighing"
abbrev wsX110 : List Cond := u_ws RX11 TX11 8
theorem nmX11 : ∀ a, a < 8 → ∀ b, b < 8 → a ≠ b → (TX11 a).2.1 ≠ (TX11 b).2.1 := by decide +kernel
theorem tyX11_ok : ∀ k, k < 8 → parseFieldDescriptor (TX11 k).2.2.1 = some (tyX11 k) := by decide +kernel
abbrev cX11_init : ByteArray := prog_1_method_1_code
def yX11_init : MethodName := ⟨RX11, "<init>", "()V"⟩
abbrev cX11_month : ByteArray := prog_1_method_2_code
def yX11_month : MethodName := ⟨RX11, "month", "(IIIIII)I"⟩
abbrev cX11_change : ByteArray := prog_1_method_3_code
def yX11_change : MethodName := ⟨RX11, "change", "(III)I"⟩
abbrev cX11_about : ByteArray := prog_1_method_4_code
def yX11_about : MethodName := ⟨RX11, "about", "(II)I"⟩
abbrev cX11_tear : ByteArray := prog_1_method_5_code
def yX11_tear : MethodName := ⟨RX11, "tear", "()I"⟩
abbrev cX11_stock : ByteArray := prog_1_method_6_code
def yX11_stock : MethodName := ⟨RX11, "stock", "(III)I"⟩
abbrev cX11_stand : ByteArray := prog_1_method_7_code
def yX11_stand : MethodName := ⟨RX11, "stand", "(II)I"⟩
abbrev cX11_say : ByteArray := prog_1_method_8_code
def yX11_say : MethodName := ⟨RX11, "say", "(I)I"⟩
abbrev cX11_wipe : ByteArray := prog_1_method_9_code
def yX11_wipe : MethodName := ⟨RX11, "wipe", "()I"⟩
abbrev cX11_fault : ByteArray := prog_1_method_10_code
def yX11_fault : MethodName := ⟨RX11, "fault", "()I"⟩
abbrev cX11_rule : ByteArray := prog_1_method_11_code
def yX11_rule : MethodName := ⟨RX11, "rule", "()I"⟩
abbrev cX11_free : ByteArray := prog_1_method_12_code
def yX11_free : MethodName := ⟨RX11, "free", "()I"⟩
abbrev cX11_fits : ByteArray := prog_1_method_13_code
def yX11_fits : MethodName := ⟨RX11, "fits", "(II)I"⟩
abbrev cX11_needs : ByteArray := prog_1_method_14_code
def yX11_needs : MethodName := ⟨RX11, "needs", "(III)I"⟩
abbrev cX11_judge : ByteArray := prog_1_method_15_code
def yX11_judge : MethodName := ⟨RX11, "judge", "(II)I"⟩
abbrev cX11_lies : ByteArray := prog_1_method_16_code
def yX11_lies : MethodName := ⟨RX11, "lies", "(IIII)I"⟩
abbrev cX11_all : ByteArray := prog_1_method_17_code
def yX11_all : MethodName := ⟨RX11, "all", "(I)I"⟩
abbrev cX11_ends : ByteArray := prog_1_method_18_code
def yX11_ends : MethodName := ⟨RX11, "ends", "(III)I"⟩
abbrev cX11_must : ByteArray := prog_1_method_19_code
def yX11_must : MethodName := ⟨RX11, "must", "(I)I"⟩
abbrev cX11_plain : ByteArray := prog_1_method_20_code
def yX11_plain : MethodName := ⟨RX11, "plain", "(I)I"⟩
abbrev cX11_near : ByteArray := prog_1_method_21_code
def yX11_near : MethodName := ⟨RX11, "near", "(I)I"⟩
abbrev cX11_doubt : ByteArray := prog_1_method_22_code
def yX11_doubt : MethodName := ⟨RX11, "doubt", "(I)I"⟩
abbrev cX11_changed : ByteArray := prog_1_method_23_code
def yX11_changed : MethodName := ⟨RX11, "changed", "(I)I"⟩
abbrev cX11_cost : ByteArray := prog_1_method_24_code
def yX11_cost : MethodName := ⟨RX11, "cost", "(III)I"⟩
abbrev cX11_costs : ByteArray := prog_1_method_25_code
def yX11_costs : MethodName := ⟨RX11, "costs", "(III)I"⟩
abbrev cX11_buy : ByteArray := prog_1_method_26_code
def yX11_buy : MethodName := ⟨RX11, "buy", "(IIII)I"⟩
abbrev cX11_settle : ByteArray := prog_1_method_27_code
def yX11_settle : MethodName := ⟨RX11, "settle", "(I)I"⟩
abbrev cX11_hide : ByteArray := prog_1_method_28_code
def yX11_hide : MethodName := ⟨RX11, "hide", "(II)I"⟩
abbrev cX11_image : ByteArray := prog_1_method_29_code
def yX11_image : MethodName := ⟨RX11, "image", "(I)I"⟩
abbrev cX11_restore : ByteArray := prog_1_method_30_code
def yX11_restore : MethodName := ⟨RX11, "restore", "(I)I"⟩
abbrev cX11_told : ByteArray := prog_1_method_31_code
def yX11_told : MethodName := ⟨RX11, "told", "(I)I"⟩
abbrev cX11_within : ByteArray := prog_1_method_32_code
def yX11_within : MethodName := ⟨RX11, "within", "(II)Z"⟩
abbrev cX11_isThing : ByteArray := prog_1_method_33_code
def yX11_isThing : MethodName := ⟨RX11, "isThing", "(I)Z"⟩
abbrev cX11_isWare : ByteArray := prog_1_method_34_code
def yX11_isWare : MethodName := ⟨RX11, "isWare", "(I)Z"⟩
abbrev cX11_isMixture : ByteArray := prog_1_method_35_code
def yX11_isMixture : MethodName := ⟨RX11, "isMixture", "(I)Z"⟩
abbrev cX11_isMonth : ByteArray := prog_1_method_36_code
def yX11_isMonth : MethodName := ⟨RX11, "isMonth", "(I)Z"⟩
abbrev cX11_amountIn : ByteArray := prog_1_method_37_code
def yX11_amountIn : MethodName := ⟨RX11, "amountIn", "(II)I"⟩
abbrev cX11_pairOf : ByteArray := prog_1_method_38_code
def yX11_pairOf : MethodName := ⟨RX11, "pairOf", "(II)I"⟩
abbrev cX11_withPair : ByteArray := prog_1_method_39_code
def yX11_withPair : MethodName := ⟨RX11, "withPair", "(III)I"⟩
abbrev cX11_thingsInPart : ByteArray := prog_1_method_40_code
def yX11_thingsInPart : MethodName := ⟨RX11, "thingsInPart", "(I)I"⟩
abbrev cX11_lowestPlace : ByteArray := prog_1_method_41_code
def yX11_lowestPlace : MethodName := ⟨RX11, "lowestPlace", "(J)I"⟩
abbrev cX11_highestPlace : ByteArray := prog_1_method_42_code
def yX11_highestPlace : MethodName := ⟨RX11, "highestPlace", "(I)I"⟩
abbrev cX11_endOfNeeds : ByteArray := prog_1_method_43_code
def yX11_endOfNeeds : MethodName := ⟨RX11, "endOfNeeds", "(IIII)I"⟩
abbrev cX11_spanOf : ByteArray := prog_1_method_44_code
def yX11_spanOf : MethodName := ⟨RX11, "spanOf", "(II)I"⟩
abbrev cX11_lowOf : ByteArray := prog_1_method_45_code
def yX11_lowOf : MethodName := ⟨RX11, "lowOf", "(I)I"⟩
abbrev cX11_highOf : ByteArray := prog_1_method_46_code
def yX11_highOf : MethodName := ⟨RX11, "highOf", "(I)I"⟩
def RX12 : String := "WorkedBackModel"
def TX12 : u_T := fun k => match k with
  | 0 => ("WorkedBackModel", "months", "I", false)
  | 1 => ("WorkedBackModel", "book", "[I", true)
  | 2 => ("WorkedBackModel", "stocks", "[I", true)
  | 3 => ("WorkedBackModel", "stands", "I", false)
  | 4 => ("WorkedBackModel", "other", "I", false)
  | 5 => ("WorkedBackModel", "signs", "I", false)
  | 6 => ("WorkedBackModel", "sign", "[I", true)
  | 7 => ("WorkedBackModel", "ruled", "I", false)
  | 8 => ("WorkedBackModel", "ruleSign", "[I", true)
  | 9 => ("WorkedBackModel", "isLaid", "Z", false)
  | 10 => ("WorkedBackModel", "more", "I", false)
  | 11 => ("WorkedBackModel", "doubted", "I", false)
  | 12 => ("WorkedBackModel", "triedMonth", "I", false)
  | 13 => ("WorkedBackModel", "triedThing", "I", false)
  | 14 => ("WorkedBackModel", "tried", "I", false)
  | 15 => ("WorkedBackModel", "low", "I", false)
  | 16 => ("WorkedBackModel", "high", "I", false)
  | 17 => ("WorkedBackModel", "agree", "[Z", true)
  | 18 => ("WorkedBackModel", "kept", "[Z", true)
  | 19 => ("WorkedBackModel", "fit", "[Z", true)
  | 20 => ("WorkedBackModel", "fitting", "I", false)
  | 21 => ("WorkedBackModel", "memo", "[B", true)
  | 22 => ("WorkedBackModel", "changedTo", "I", false)
  | 23 => ("WorkedBackModel", "open", "[I", true)
  | 24 => ("WorkedBackModel", "image", "[I", true)
  | _ => ("WorkedBackModel", "isKept", "[Z", true)
def tyX12 : Nat → FieldType := fun k => match k with
  | 0 => .int
  | 1 => .array .int
  | 2 => .array .int
  | 3 => .int
  | 4 => .int
  | 5 => .int
  | 6 => .array .int
  | 7 => .int
  | 8 => .array .int
  | 9 => .boolean
  | 10 => .int
  | 11 => .int
  | 12 => .int
  | 13 => .int
  | 14 => .int
  | 15 => .int
  | 16 => .int
  | 17 => .array .boolean
  | 18 => .array .boolean
  | 19 => .array .boolean
  | 20 => .int
  | 21 => .array .byte
  | 22 => .int
  | 23 => .array .int
  | 24 => .array .int
  | _ => .array .boolean
abbrev wsX120 : List Cond := u_ws RX12 TX12 26
theorem nmX12 : ∀ a, a < 26 → ∀ b, b < 26 → a ≠ b → (TX12 a).2.1 ≠ (TX12 b).2.1 := by decide +kernel
theorem tyX12_ok : ∀ k, k < 26 → parseFieldDescriptor (TX12 k).2.2.1 = some (tyX12 k) := by decide +kernel
abbrev cX12_init : ByteArray := prog_14_method_1_code
def yX12_init : MethodName := ⟨RX12, "<init>", "()V"⟩
abbrev cX12_in : ByteArray := prog_14_method_2_code
def yX12_in : MethodName := ⟨RX12, "in", "(III)Z"⟩
abbrev cX12_isThing : ByteArray := prog_14_method_3_code
def yX12_isThing : MethodName := ⟨RX12, "isThing", "(I)Z"⟩
abbrev cX12_isMonth : ByteArray := prog_14_method_4_code
def yX12_isMonth : MethodName := ⟨RX12, "isMonth", "(I)Z"⟩
abbrev cX12_isMixture : ByteArray := prog_14_method_5_code
def yX12_isMixture : MethodName := ⟨RX12, "isMixture", "(I)Z"⟩
abbrev cX12_mostOf : ByteArray := prog_14_method_6_code
def yX12_mostOf : MethodName := ⟨RX12, "mostOf", "(I)I"⟩
abbrev cX12_month : ByteArray := prog_14_method_7_code
def yX12_month : MethodName := ⟨RX12, "month", "(IIIIII)I"⟩
abbrev cX12_change : ByteArray := prog_14_method_8_code
def yX12_change : MethodName := ⟨RX12, "change", "(III)I"⟩
abbrev cX12_about : ByteArray := prog_14_method_9_code
def yX12_about : MethodName := ⟨RX12, "about", "(II)I"⟩
abbrev cX12_tear : ByteArray := prog_14_method_10_code
def yX12_tear : MethodName := ⟨RX12, "tear", "()I"⟩
abbrev cX12_stock : ByteArray := prog_14_method_11_code
def yX12_stock : MethodName := ⟨RX12, "stock", "(III)I"⟩
abbrev cX12_standOf : ByteArray := prog_14_method_12_code
def yX12_standOf : MethodName := ⟨RX12, "standOf", "()I"⟩
abbrev cX12_stand : ByteArray := prog_14_method_13_code
def yX12_stand : MethodName := ⟨RX12, "stand", "(II)I"⟩
abbrev cX12_say : ByteArray := prog_14_method_14_code
def yX12_say : MethodName := ⟨RX12, "say", "(I)I"⟩
abbrev cX12_wipe : ByteArray := prog_14_method_15_code
def yX12_wipe : MethodName := ⟨RX12, "wipe", "()I"⟩
abbrev cX12_faultOf : ByteArray := prog_14_method_16_code
def yX12_faultOf : MethodName := ⟨RX12, "faultOf", "()I"⟩
abbrev cX12_fault : ByteArray := prog_14_method_17_code
def yX12_fault : MethodName := ⟨RX12, "fault", "()I"⟩
abbrev cX12_boths : ByteArray := prog_14_method_18_code
def yX12_boths : MethodName := ⟨RX12, "boths", "()I"⟩
abbrev cX12_rule : ByteArray := prog_14_method_19_code
def yX12_rule : MethodName := ⟨RX12, "rule", "()I"⟩
abbrev cX12_free : ByteArray := prog_14_method_20_code
def yX12_free : MethodName := ⟨RX12, "free", "()I"⟩
abbrev cX12_digit : ByteArray := prog_14_method_21_code
def yX12_digit : MethodName := ⟨RX12, "digit", "(II)I"⟩
abbrev cX12_keeps : ByteArray := prog_14_method_22_code
def yX12_keeps : MethodName := ⟨RX12, "keeps", "(I)Z"⟩
abbrev cX12_isStoodIn : ByteArray := prog_14_method_23_code
def yX12_isStoodIn : MethodName := ⟨RX12, "isStoodIn", "(I)Z"⟩
abbrev cX12_needOf : ByteArray := prog_14_method_24_code
def yX12_needOf : MethodName := ⟨RX12, "needOf", "(IIII)I"⟩
abbrev cX12_pass : ByteArray := prog_14_method_25_code
def yX12_pass : MethodName := ⟨RX12, "pass", "(III)Z"⟩
abbrev cX12_goes : ByteArray := prog_14_method_26_code
def yX12_goes : MethodName := ⟨RX12, "goes", "(IIIIII)I"⟩
abbrev cX12_amount : ByteArray := prog_14_method_27_code
def yX12_amount : MethodName := ⟨RX12, "amount", "(II)I"⟩
abbrev cX12_goesBy : ByteArray := prog_14_method_28_code
def yX12_goesBy : MethodName := ⟨RX12, "goesBy", "(II)I"⟩
abbrev cX12_layThing : ByteArray := prog_14_method_29_code
def yX12_layThing : MethodName := ⟨RX12, "layThing", "(I)V"⟩
abbrev cX12_layThings : ByteArray := prog_14_method_30_code
def yX12_layThings : MethodName := ⟨RX12, "layThings", "()V"⟩
abbrev cX12_agreesWith : ByteArray := prog_14_method_31_code
def yX12_agreesWith : MethodName := ⟨RX12, "agreesWith", "(II)Z"⟩
abbrev cX12_agreesWithAll : ByteArray := prog_14_method_32_code
def yX12_agreesWithAll : MethodName := ⟨RX12, "agreesWithAll", "(I)Z"⟩
abbrev cX12_lay : ByteArray := prog_14_method_33_code
def yX12_lay : MethodName := ⟨RX12, "lay", "()I"⟩
abbrev cX12_fits : ByteArray := prog_14_method_34_code
def yX12_fits : MethodName := ⟨RX12, "fits", "(II)I"⟩
abbrev cX12_needs : ByteArray := prog_14_method_35_code
def yX12_needs : MethodName := ⟨RX12, "needs", "(III)I"⟩
abbrev cX12_judge : ByteArray := prog_14_method_36_code
def yX12_judge : MethodName := ⟨RX12, "judge", "(II)I"⟩
abbrev cX12_lies : ByteArray := prog_14_method_37_code
def yX12_lies : MethodName := ⟨RX12, "lies", "(IIII)I"⟩
abbrev cX12_all : ByteArray := prog_14_method_38_code
def yX12_all : MethodName := ⟨RX12, "all", "(I)I"⟩
abbrev cX12_ends : ByteArray := prog_14_method_39_code
def yX12_ends : MethodName := ⟨RX12, "ends", "(III)I"⟩
abbrev cX12_must : ByteArray := prog_14_method_40_code
def yX12_must : MethodName := ⟨RX12, "must", "(I)I"⟩
abbrev cX12_things : ByteArray := prog_14_method_41_code
def yX12_things : MethodName := ⟨RX12, "things", "(I)I"⟩
abbrev cX12_plain : ByteArray := prog_14_method_42_code
def yX12_plain : MethodName := ⟨RX12, "plain", "(I)I"⟩
abbrev cX12_firstNow : ByteArray := prog_14_method_43_code
def yX12_firstNow : MethodName := ⟨RX12, "firstNow", "()I"⟩
abbrev cX12_near : ByteArray := prog_14_method_44_code
def yX12_near : MethodName := ⟨RX12, "near", "(I)I"⟩
abbrev cX12_bits : ByteArray := prog_14_method_45_code
def yX12_bits : MethodName := ⟨RX12, "bits", "(I)I"⟩
abbrev cX12_doubt : ByteArray := prog_14_method_46_code
def yX12_doubt : MethodName := ⟨RX12, "doubt", "(I)I"⟩
abbrev cX12_agreesChanged : ByteArray := prog_14_method_47_code
def yX12_agreesChanged : MethodName := ⟨RX12, "agreesChanged", "(IIIII)Z"⟩
abbrev cX12_changedFrom : ByteArray := prog_14_method_48_code
def yX12_changedFrom : MethodName := ⟨RX12, "changedFrom", "(II)I"⟩
abbrev cX12_changed : ByteArray := prog_14_method_49_code
def yX12_changed : MethodName := ⟨RX12, "changed", "(I)I"⟩
abbrev cX12_costOf : ByteArray := prog_14_method_50_code
def yX12_costOf : MethodName := ⟨RX12, "costOf", "(III)I"⟩
abbrev cX12_cost : ByteArray := prog_14_method_51_code
def yX12_cost : MethodName := ⟨RX12, "cost", "(III)I"⟩
abbrev cX12_costs : ByteArray := prog_14_method_52_code
def yX12_costs : MethodName := ⟨RX12, "costs", "(III)I"⟩
abbrev cX12_buy : ByteArray := prog_14_method_53_code
def yX12_buy : MethodName := ⟨RX12, "buy", "(IIII)I"⟩
abbrev cX12_layOpen : ByteArray := prog_14_method_54_code
def yX12_layOpen : MethodName := ⟨RX12, "layOpen", "(I)V"⟩
abbrev cX12_countTried : ByteArray := prog_14_method_55_code
def yX12_countTried : MethodName := ⟨RX12, "countTried", "(I)I"⟩
abbrev cX12_settle : ByteArray := prog_14_method_56_code
def yX12_settle : MethodName := ⟨RX12, "settle", "(I)I"⟩
abbrev cX12_mostBy : ByteArray := prog_14_method_57_code
def yX12_mostBy : MethodName := ⟨RX12, "mostBy", "(II)I"⟩
abbrev cX12_hide : ByteArray := prog_14_method_58_code
def yX12_hide : MethodName := ⟨RX12, "hide", "(II)I"⟩
abbrev cX12_image : ByteArray := prog_14_method_59_code
def yX12_image : MethodName := ⟨RX12, "image", "(I)I"⟩
abbrev cX12_restore : ByteArray := prog_14_method_60_code
def yX12_restore : MethodName := ⟨RX12, "restore", "(I)I"⟩
abbrev cX12_told : ByteArray := prog_14_method_61_code
def yX12_told : MethodName := ⟨RX12, "told", "(I)I"⟩
def RJ6 : String := "java/lang/Integer"
abbrev cJ6_bitCount_0f7a4 : ByteArray := prog_15_method_49_code
def yJ6_bitCount_0f7a4 : MethodName := ⟨RJ6, "bitCount", "(I)I"⟩
def RJ13 : String := "java/lang/Long"
abbrev cJ13_bitCount_95d88 : ByteArray := prog_16_method_50_code
def yJ13_bitCount_95d88 : MethodName := ⟨RJ13, "bitCount", "(J)I"⟩
def RJ9 : String := "java/lang/Math"
abbrev cJ9_max_7cf53 : ByteArray := prog_17_method_65_code
def yJ9_max_7cf53 : MethodName := ⟨RJ9, "max", "(II)I"⟩
abbrev cJ9_min_7cf53 : ByteArray := prog_17_method_69_code
def yJ9_min_7cf53 : MethodName := ⟨RJ9, "min", "(II)I"⟩
def RJ10 : String := "java/lang/System"
def RL : String := "WorkedBackLaw"
abbrev cL_law : ByteArray := code
def yL_law : MethodName := ⟨RL, "law", "([I)Z"⟩
abbrev vwCl : List vw_C := [(RX0, TX0, 8), (RX1, TX1, 10), (RX2, TX2, 10), (RX3, TX3, 9), (RX4, TX4, 5), (RX5, TX5, 1), (RX6, TX6, 4), (RX7, TX7, 7), (RX8, TX8, 10), (RX9, TX9, 7), (RX10, TX10, 13), (RX11, TX11, 8), (RX12, TX12, 26)]
