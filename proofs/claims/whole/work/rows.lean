section
-- ===== PART A: goes FIRST, ahead of the names: the tables' words, and 'selects' of the private methods out of them =====
/-- a private method of a class that the tables say can be made, by its rows of tables_1 -/
def lw_okq (q : MethodName × Nat) : Prop := (q.1.cls ≠ "java/lang/invoke/MethodHandle" ∧ q.1.cls ≠ "java/lang/invoke/VarHandle") ∧ Cond.instantiable q.1.cls q.2 ∈ tables_1 ∧ Cond.privateMethod q.1 ∈ tables_1 ∧ Cond.instanceMethod q.1 ∈ tables_1
theorem lw_p0 : lw_okq (⟨"WorkedBack", "isMonth", "(I)Z"⟩, 8) := ⟨⟨by decide +kernel, by decide +kernel⟩, List.mem_of_getElem? (i := 19) (by decide +kernel), List.mem_of_getElem? (i := 475) (by decide +kernel), List.mem_of_getElem? (i := 476) (by decide +kernel)⟩
theorem lw_p1 : lw_okq (⟨"WorkedBack$Text", "beginTest", "()V"⟩, 10) := ⟨⟨by decide +kernel, by decide +kernel⟩, List.mem_of_getElem? (i := 92) (by decide +kernel), List.mem_of_getElem? (i := 575) (by decide +kernel), List.mem_of_getElem? (i := 576) (by decide +kernel)⟩
theorem lw_p2 : lw_okq (⟨"WorkedBack$Text", "endTest", "()V"⟩, 10) := ⟨⟨by decide +kernel, by decide +kernel⟩, List.mem_of_getElem? (i := 92) (by decide +kernel), List.mem_of_getElem? (i := 579) (by decide +kernel), List.mem_of_getElem? (i := 580) (by decide +kernel)⟩
theorem lw_p3 : lw_okq (⟨"WorkedBack$Text", "setBelow", "()V"⟩, 10) := ⟨⟨by decide +kernel, by decide +kernel⟩, List.mem_of_getElem? (i := 92) (by decide +kernel), List.mem_of_getElem? (i := 583) (by decide +kernel), List.mem_of_getElem? (i := 584) (by decide +kernel)⟩
theorem lw_p4 : lw_okq (⟨"WorkedBack$Text", "narrowBoth", "(II)V"⟩, 10) := ⟨⟨by decide +kernel, by decide +kernel⟩, List.mem_of_getElem? (i := 92) (by decide +kernel), List.mem_of_getElem? (i := 593) (by decide +kernel), List.mem_of_getElem? (i := 594) (by decide +kernel)⟩
theorem lw_p5 : lw_okq (⟨"WorkedBack$Text", "readOn", "(I)V"⟩, 10) := ⟨⟨by decide +kernel, by decide +kernel⟩, List.mem_of_getElem? (i := 92) (by decide +kernel), List.mem_of_getElem? (i := 603) (by decide +kernel), List.mem_of_getElem? (i := 604) (by decide +kernel)⟩
theorem lw_p6 : lw_okq (⟨"WorkedBack$Book", "needOfPair", "(II)I"⟩, 8) := ⟨⟨by decide +kernel, by decide +kernel⟩, List.mem_of_getElem? (i := 27) (by decide +kernel), List.mem_of_getElem? (i := 675) (by decide +kernel), List.mem_of_getElem? (i := 676) (by decide +kernel)⟩
theorem lw_p7 : lw_okq (⟨"WorkedBack$Course", "setNeeds", "(LWorkedBack$Book;I)V"⟩, 10) := ⟨⟨by decide +kernel, by decide +kernel⟩, List.mem_of_getElem? (i := 207) (by decide +kernel), List.mem_of_getElem? (i := 723) (by decide +kernel), List.mem_of_getElem? (i := 724) (by decide +kernel)⟩
theorem lw_p8 : lw_okq (⟨"WorkedBack$Course", "goesThrough", "(LWorkedBack$Flow;I)Z"⟩, 10) := ⟨⟨by decide +kernel, by decide +kernel⟩, List.mem_of_getElem? (i := 207) (by decide +kernel), List.mem_of_getElem? (i := 741) (by decide +kernel), List.mem_of_getElem? (i := 742) (by decide +kernel)⟩
theorem lw_p9 : lw_okq (⟨"WorkedBack$Works", "setMade", "()V"⟩, 13) := ⟨⟨by decide +kernel, by decide +kernel⟩, List.mem_of_getElem? (i := 133) (by decide +kernel), List.mem_of_getElem? (i := 777) (by decide +kernel), List.mem_of_getElem? (i := 778) (by decide +kernel)⟩
theorem lw_p10 : lw_okq (⟨"WorkedBack$Works", "firstWith", "(II)I"⟩, 13) := ⟨⟨by decide +kernel, by decide +kernel⟩, List.mem_of_getElem? (i := 133) (by decide +kernel), List.mem_of_getElem? (i := 861) (by decide +kernel), List.mem_of_getElem? (i := 862) (by decide +kernel)⟩
theorem lw_p11 : lw_okq (⟨"WorkedBack$Search", "leastMore", "()I"⟩, 7) := ⟨⟨by decide +kernel, by decide +kernel⟩, List.mem_of_getElem? (i := 322) (by decide +kernel), List.mem_of_getElem? (i := 889) (by decide +kernel), List.mem_of_getElem? (i := 890) (by decide +kernel)⟩
theorem lw_p12 : lw_okq (⟨"WorkedBack$Search", "seekDoubtOf", "(I)V"⟩, 7) := ⟨⟨by decide +kernel, by decide +kernel⟩, List.mem_of_getElem? (i := 322) (by decide +kernel), List.mem_of_getElem? (i := 901) (by decide +kernel), List.mem_of_getElem? (i := 902) (by decide +kernel)⟩
theorem lw_p13 : lw_okq (⟨"WorkedBack$Course", "chartAhead", "(LWorkedBack$Flow;I)V"⟩, 10) := ⟨⟨by decide +kernel, by decide +kernel⟩, List.mem_of_getElem? (i := 207) (by decide +kernel), List.mem_of_getElem? (i := 927) (by decide +kernel), List.mem_of_getElem? (i := 928) (by decide +kernel)⟩
theorem lw_p14 : lw_okq (⟨"WorkedBack$Course", "chartOnward", "(LWorkedBack$Flow;I)V"⟩, 10) := ⟨⟨by decide +kernel, by decide +kernel⟩, List.mem_of_getElem? (i := 207) (by decide +kernel), List.mem_of_getElem? (i := 934) (by decide +kernel), List.mem_of_getElem? (i := 935) (by decide +kernel)⟩
theorem lw_p15 : lw_okq (⟨"WorkedBack$Break", "hasStarts", "(I)Z"⟩, 10) := ⟨⟨by decide +kernel, by decide +kernel⟩, List.mem_of_getElem? (i := 354) (by decide +kernel), List.mem_of_getElem? (i := 947) (by decide +kernel), List.mem_of_getElem? (i := 948) (by decide +kernel)⟩
def lw_privs_1 : List (MethodName × Nat) := [(⟨"WorkedBack", "isMonth", "(I)Z"⟩, 8), (⟨"WorkedBack$Text", "beginTest", "()V"⟩, 10), (⟨"WorkedBack$Text", "endTest", "()V"⟩, 10), (⟨"WorkedBack$Text", "setBelow", "()V"⟩, 10), (⟨"WorkedBack$Text", "narrowBoth", "(II)V"⟩, 10), (⟨"WorkedBack$Text", "readOn", "(I)V"⟩, 10), (⟨"WorkedBack$Book", "needOfPair", "(II)I"⟩, 8), (⟨"WorkedBack$Course", "setNeeds", "(LWorkedBack$Book;I)V"⟩, 10), (⟨"WorkedBack$Course", "goesThrough", "(LWorkedBack$Flow;I)Z"⟩, 10), (⟨"WorkedBack$Works", "setMade", "()V"⟩, 13), (⟨"WorkedBack$Works", "firstWith", "(II)I"⟩, 13), (⟨"WorkedBack$Search", "leastMore", "()I"⟩, 7), (⟨"WorkedBack$Search", "seekDoubtOf", "(I)V"⟩, 7), (⟨"WorkedBack$Course", "chartAhead", "(LWorkedBack$Flow;I)V"⟩, 10), (⟨"WorkedBack$Course", "chartOnward", "(LWorkedBack$Flow;I)V"⟩, 10), (⟨"WorkedBack$Break", "hasStarts", "(I)Z"⟩, 10)]
theorem lw_r1 : ∀ q ∈ lw_privs_1, lw_okq q := List.forall_mem_cons.mpr ⟨lw_p0, List.forall_mem_cons.mpr ⟨lw_p1, List.forall_mem_cons.mpr ⟨lw_p2, List.forall_mem_cons.mpr ⟨lw_p3, List.forall_mem_cons.mpr ⟨lw_p4, List.forall_mem_cons.mpr ⟨lw_p5, List.forall_mem_cons.mpr ⟨lw_p6, List.forall_mem_cons.mpr ⟨lw_p7, List.forall_mem_cons.mpr ⟨lw_p8, List.forall_mem_cons.mpr ⟨lw_p9, List.forall_mem_cons.mpr ⟨lw_p10, List.forall_mem_cons.mpr ⟨lw_p11, List.forall_mem_cons.mpr ⟨lw_p12, List.forall_mem_cons.mpr ⟨lw_p13, List.forall_mem_cons.mpr ⟨lw_p14, List.forall_mem_cons.mpr ⟨lw_p15, fun _ h => absurd h List.not_mem_nil⟩⟩⟩⟩⟩⟩⟩⟩⟩⟩⟩⟩⟩⟩⟩⟩
theorem lw_p16 : lw_okq (⟨"WorkedBack$Break", "partnerOf", "(I)I"⟩, 10) := ⟨⟨by decide +kernel, by decide +kernel⟩, List.mem_of_getElem? (i := 354) (by decide +kernel), List.mem_of_getElem? (i := 951) (by decide +kernel), List.mem_of_getElem? (i := 952) (by decide +kernel)⟩
theorem lw_p17 : lw_okq (⟨"WorkedBack$Break", "hasLaters", "(II)Z"⟩, 10) := ⟨⟨by decide +kernel, by decide +kernel⟩, List.mem_of_getElem? (i := 354) (by decide +kernel), List.mem_of_getElem? (i := 958) (by decide +kernel), List.mem_of_getElem? (i := 959) (by decide +kernel)⟩
theorem lw_p18 : lw_okq (⟨"WorkedBack$Break", "latersOf", "(III)I"⟩, 10) := ⟨⟨by decide +kernel, by decide +kernel⟩, List.mem_of_getElem? (i := 354) (by decide +kernel), List.mem_of_getElem? (i := 963) (by decide +kernel), List.mem_of_getElem? (i := 964) (by decide +kernel)⟩
theorem lw_p19 : lw_okq (⟨"WorkedBack$Course", "isPlace", "(II)Z"⟩, 10) := ⟨⟨by decide +kernel, by decide +kernel⟩, List.mem_of_getElem? (i := 207) (by decide +kernel), List.mem_of_getElem? (i := 972) (by decide +kernel), List.mem_of_getElem? (i := 973) (by decide +kernel)⟩
theorem lw_p20 : lw_okq (⟨"WorkedBack$Break", "latersWith", "(IIIII)I"⟩, 10) := ⟨⟨by decide +kernel, by decide +kernel⟩, List.mem_of_getElem? (i := 354) (by decide +kernel), List.mem_of_getElem? (i := 990) (by decide +kernel), List.mem_of_getElem? (i := 991) (by decide +kernel)⟩
theorem lw_p21 : lw_okq (⟨"WorkedBack$Break", "isFound", "(I)Z"⟩, 10) := ⟨⟨by decide +kernel, by decide +kernel⟩, List.mem_of_getElem? (i := 354) (by decide +kernel), List.mem_of_getElem? (i := 995) (by decide +kernel), List.mem_of_getElem? (i := 996) (by decide +kernel)⟩
theorem lw_p22 : lw_okq (⟨"WorkedBack$Break", "isFoundFrom", "(II)Z"⟩, 10) := ⟨⟨by decide +kernel, by decide +kernel⟩, List.mem_of_getElem? (i := 354) (by decide +kernel), List.mem_of_getElem? (i := 1000) (by decide +kernel), List.mem_of_getElem? (i := 1001) (by decide +kernel)⟩
theorem lw_p23 : lw_okq (⟨"WorkedBack$Weighing", "weighAll", "()V"⟩, 7) := ⟨⟨by decide +kernel, by decide +kernel⟩, List.mem_of_getElem? (i := 399) (by decide +kernel), List.mem_of_getElem? (i := 1052) (by decide +kernel), List.mem_of_getElem? (i := 1053) (by decide +kernel)⟩
theorem lw_p24 : lw_okq (⟨"WorkedBack$Weighing", "setWeights", "(I)V"⟩, 7) := ⟨⟨by decide +kernel, by decide +kernel⟩, List.mem_of_getElem? (i := 399) (by decide +kernel), List.mem_of_getElem? (i := 1058) (by decide +kernel), List.mem_of_getElem? (i := 1059) (by decide +kernel)⟩
theorem lw_p25 : lw_okq (⟨"WorkedBack$Weighing", "addWeights", "(III)V"⟩, 7) := ⟨⟨by decide +kernel, by decide +kernel⟩, List.mem_of_getElem? (i := 399) (by decide +kernel), List.mem_of_getElem? (i := 1066) (by decide +kernel), List.mem_of_getElem? (i := 1067) (by decide +kernel)⟩
theorem lw_p26 : lw_okq (⟨"WorkedBack$Weighing", "addGuestWeights", "(IIIJJ)V"⟩, 7) := ⟨⟨by decide +kernel, by decide +kernel⟩, List.mem_of_getElem? (i := 399) (by decide +kernel), List.mem_of_getElem? (i := 1074) (by decide +kernel), List.mem_of_getElem? (i := 1075) (by decide +kernel)⟩
theorem lw_p27 : lw_okq (⟨"WorkedBack$Weighing", "weigh", "(LWorkedBack$Course;II)V"⟩, 7) := ⟨⟨by decide +kernel, by decide +kernel⟩, List.mem_of_getElem? (i := 399) (by decide +kernel), List.mem_of_getElem? (i := 1078) (by decide +kernel), List.mem_of_getElem? (i := 1079) (by decide +kernel)⟩
theorem lw_p28 : lw_okq (⟨"WorkedBack$Weighing", "count", "(LWorkedBack$Course;IIII)V"⟩, 7) := ⟨⟨by decide +kernel, by decide +kernel⟩, List.mem_of_getElem? (i := 399) (by decide +kernel), List.mem_of_getElem? (i := 1084) (by decide +kernel), List.mem_of_getElem? (i := 1085) (by decide +kernel)⟩
theorem lw_p29 : lw_okq (⟨"WorkedBack$Weighing", "countKey", "(LWorkedBack$Course;IIIII)V"⟩, 7) := ⟨⟨by decide +kernel, by decide +kernel⟩, List.mem_of_getElem? (i := 399) (by decide +kernel), List.mem_of_getElem? (i := 1088) (by decide +kernel), List.mem_of_getElem? (i := 1089) (by decide +kernel)⟩
theorem lw_p30 : lw_okq (⟨"WorkedBack$Weighing", "isBetter", "(IIII)Z"⟩, 7) := ⟨⟨by decide +kernel, by decide +kernel⟩, List.mem_of_getElem? (i := 399) (by decide +kernel), List.mem_of_getElem? (i := 1114) (by decide +kernel), List.mem_of_getElem? (i := 1115) (by decide +kernel)⟩
theorem lw_p31 : lw_okq (⟨"WorkedBackModel", "isMonth", "(I)Z"⟩, 26) := ⟨⟨by decide +kernel, by decide +kernel⟩, List.mem_of_getElem? (i := 1141) (by decide +kernel), List.mem_of_getElem? (i := 1239) (by decide +kernel), List.mem_of_getElem? (i := 1240) (by decide +kernel)⟩
def lw_privs_2 : List (MethodName × Nat) := [(⟨"WorkedBack$Break", "partnerOf", "(I)I"⟩, 10), (⟨"WorkedBack$Break", "hasLaters", "(II)Z"⟩, 10), (⟨"WorkedBack$Break", "latersOf", "(III)I"⟩, 10), (⟨"WorkedBack$Course", "isPlace", "(II)Z"⟩, 10), (⟨"WorkedBack$Break", "latersWith", "(IIIII)I"⟩, 10), (⟨"WorkedBack$Break", "isFound", "(I)Z"⟩, 10), (⟨"WorkedBack$Break", "isFoundFrom", "(II)Z"⟩, 10), (⟨"WorkedBack$Weighing", "weighAll", "()V"⟩, 7), (⟨"WorkedBack$Weighing", "setWeights", "(I)V"⟩, 7), (⟨"WorkedBack$Weighing", "addWeights", "(III)V"⟩, 7), (⟨"WorkedBack$Weighing", "addGuestWeights", "(IIIJJ)V"⟩, 7), (⟨"WorkedBack$Weighing", "weigh", "(LWorkedBack$Course;II)V"⟩, 7), (⟨"WorkedBack$Weighing", "count", "(LWorkedBack$Course;IIII)V"⟩, 7), (⟨"WorkedBack$Weighing", "countKey", "(LWorkedBack$Course;IIIII)V"⟩, 7), (⟨"WorkedBack$Weighing", "isBetter", "(IIII)Z"⟩, 7), (⟨"WorkedBackModel", "isMonth", "(I)Z"⟩, 26)]
theorem lw_r2 : ∀ q ∈ lw_privs_2, lw_okq q := List.forall_mem_cons.mpr ⟨lw_p16, List.forall_mem_cons.mpr ⟨lw_p17, List.forall_mem_cons.mpr ⟨lw_p18, List.forall_mem_cons.mpr ⟨lw_p19, List.forall_mem_cons.mpr ⟨lw_p20, List.forall_mem_cons.mpr ⟨lw_p21, List.forall_mem_cons.mpr ⟨lw_p22, List.forall_mem_cons.mpr ⟨lw_p23, List.forall_mem_cons.mpr ⟨lw_p24, List.forall_mem_cons.mpr ⟨lw_p25, List.forall_mem_cons.mpr ⟨lw_p26, List.forall_mem_cons.mpr ⟨lw_p27, List.forall_mem_cons.mpr ⟨lw_p28, List.forall_mem_cons.mpr ⟨lw_p29, List.forall_mem_cons.mpr ⟨lw_p30, List.forall_mem_cons.mpr ⟨lw_p31, fun _ h => absurd h List.not_mem_nil⟩⟩⟩⟩⟩⟩⟩⟩⟩⟩⟩⟩⟩⟩⟩⟩
theorem lw_p32 : lw_okq (⟨"WorkedBackModel", "standOf", "()I"⟩, 26) := ⟨⟨by decide +kernel, by decide +kernel⟩, List.mem_of_getElem? (i := 1141) (by decide +kernel), List.mem_of_getElem? (i := 1265) (by decide +kernel), List.mem_of_getElem? (i := 1266) (by decide +kernel)⟩
theorem lw_p33 : lw_okq (⟨"WorkedBackModel", "faultOf", "()I"⟩, 26) := ⟨⟨by decide +kernel, by decide +kernel⟩, List.mem_of_getElem? (i := 1141) (by decide +kernel), List.mem_of_getElem? (i := 1281) (by decide +kernel), List.mem_of_getElem? (i := 1282) (by decide +kernel)⟩
theorem lw_p34 : lw_okq (⟨"WorkedBackModel", "boths", "()I"⟩, 26) := ⟨⟨by decide +kernel, by decide +kernel⟩, List.mem_of_getElem? (i := 1141) (by decide +kernel), List.mem_of_getElem? (i := 1289) (by decide +kernel), List.mem_of_getElem? (i := 1290) (by decide +kernel)⟩
theorem lw_p35 : lw_okq (⟨"WorkedBackModel", "keeps", "(I)Z"⟩, 26) := ⟨⟨by decide +kernel, by decide +kernel⟩, List.mem_of_getElem? (i := 1141) (by decide +kernel), List.mem_of_getElem? (i := 1304) (by decide +kernel), List.mem_of_getElem? (i := 1305) (by decide +kernel)⟩
theorem lw_p36 : lw_okq (⟨"WorkedBackModel", "goesBy", "(II)I"⟩, 26) := ⟨⟨by decide +kernel, by decide +kernel⟩, List.mem_of_getElem? (i := 1141) (by decide +kernel), List.mem_of_getElem? (i := 1311) (by decide +kernel), List.mem_of_getElem? (i := 1312) (by decide +kernel)⟩
theorem lw_p37 : lw_okq (⟨"WorkedBackModel", "goes", "(IIIIII)I"⟩, 26) := ⟨⟨by decide +kernel, by decide +kernel⟩, List.mem_of_getElem? (i := 1141) (by decide +kernel), List.mem_of_getElem? (i := 1318) (by decide +kernel), List.mem_of_getElem? (i := 1319) (by decide +kernel)⟩
theorem lw_p38 : lw_okq (⟨"WorkedBackModel", "needOf", "(IIII)I"⟩, 26) := ⟨⟨by decide +kernel, by decide +kernel⟩, List.mem_of_getElem? (i := 1141) (by decide +kernel), List.mem_of_getElem? (i := 1322) (by decide +kernel), List.mem_of_getElem? (i := 1323) (by decide +kernel)⟩
theorem lw_p39 : lw_okq (⟨"WorkedBackModel", "isStoodIn", "(I)Z"⟩, 26) := ⟨⟨by decide +kernel, by decide +kernel⟩, List.mem_of_getElem? (i := 1141) (by decide +kernel), List.mem_of_getElem? (i := 1326) (by decide +kernel), List.mem_of_getElem? (i := 1327) (by decide +kernel)⟩
theorem lw_p40 : lw_okq (⟨"WorkedBackModel", "pass", "(III)Z"⟩, 26) := ⟨⟨by decide +kernel, by decide +kernel⟩, List.mem_of_getElem? (i := 1141) (by decide +kernel), List.mem_of_getElem? (i := 1330) (by decide +kernel), List.mem_of_getElem? (i := 1331) (by decide +kernel)⟩
theorem lw_p41 : lw_okq (⟨"WorkedBackModel", "lay", "()I"⟩, 26) := ⟨⟨by decide +kernel, by decide +kernel⟩, List.mem_of_getElem? (i := 1141) (by decide +kernel), List.mem_of_getElem? (i := 1351) (by decide +kernel), List.mem_of_getElem? (i := 1352) (by decide +kernel)⟩
theorem lw_p42 : lw_okq (⟨"WorkedBackModel", "layThings", "()V"⟩, 26) := ⟨⟨by decide +kernel, by decide +kernel⟩, List.mem_of_getElem? (i := 1141) (by decide +kernel), List.mem_of_getElem? (i := 1355) (by decide +kernel), List.mem_of_getElem? (i := 1356) (by decide +kernel)⟩
theorem lw_p43 : lw_okq (⟨"WorkedBackModel", "layThing", "(I)V"⟩, 26) := ⟨⟨by decide +kernel, by decide +kernel⟩, List.mem_of_getElem? (i := 1141) (by decide +kernel), List.mem_of_getElem? (i := 1359) (by decide +kernel), List.mem_of_getElem? (i := 1360) (by decide +kernel)⟩
theorem lw_p44 : lw_okq (⟨"WorkedBackModel", "agreesWithAll", "(I)Z"⟩, 26) := ⟨⟨by decide +kernel, by decide +kernel⟩, List.mem_of_getElem? (i := 1141) (by decide +kernel), List.mem_of_getElem? (i := 1363) (by decide +kernel), List.mem_of_getElem? (i := 1364) (by decide +kernel)⟩
theorem lw_p45 : lw_okq (⟨"WorkedBackModel", "agreesWith", "(II)Z"⟩, 26) := ⟨⟨by decide +kernel, by decide +kernel⟩, List.mem_of_getElem? (i := 1141) (by decide +kernel), List.mem_of_getElem? (i := 1367) (by decide +kernel), List.mem_of_getElem? (i := 1368) (by decide +kernel)⟩
theorem lw_p46 : lw_okq (⟨"WorkedBackModel", "firstNow", "()I"⟩, 26) := ⟨⟨by decide +kernel, by decide +kernel⟩, List.mem_of_getElem? (i := 1141) (by decide +kernel), List.mem_of_getElem? (i := 1390) (by decide +kernel), List.mem_of_getElem? (i := 1391) (by decide +kernel)⟩
theorem lw_p47 : lw_okq (⟨"WorkedBackModel", "changedFrom", "(II)I"⟩, 26) := ⟨⟨by decide +kernel, by decide +kernel⟩, List.mem_of_getElem? (i := 1141) (by decide +kernel), List.mem_of_getElem? (i := 1405) (by decide +kernel), List.mem_of_getElem? (i := 1406) (by decide +kernel)⟩
def lw_privs_3 : List (MethodName × Nat) := [(⟨"WorkedBackModel", "standOf", "()I"⟩, 26), (⟨"WorkedBackModel", "faultOf", "()I"⟩, 26), (⟨"WorkedBackModel", "boths", "()I"⟩, 26), (⟨"WorkedBackModel", "keeps", "(I)Z"⟩, 26), (⟨"WorkedBackModel", "goesBy", "(II)I"⟩, 26), (⟨"WorkedBackModel", "goes", "(IIIIII)I"⟩, 26), (⟨"WorkedBackModel", "needOf", "(IIII)I"⟩, 26), (⟨"WorkedBackModel", "isStoodIn", "(I)Z"⟩, 26), (⟨"WorkedBackModel", "pass", "(III)Z"⟩, 26), (⟨"WorkedBackModel", "lay", "()I"⟩, 26), (⟨"WorkedBackModel", "layThings", "()V"⟩, 26), (⟨"WorkedBackModel", "layThing", "(I)V"⟩, 26), (⟨"WorkedBackModel", "agreesWithAll", "(I)Z"⟩, 26), (⟨"WorkedBackModel", "agreesWith", "(II)Z"⟩, 26), (⟨"WorkedBackModel", "firstNow", "()I"⟩, 26), (⟨"WorkedBackModel", "changedFrom", "(II)I"⟩, 26)]
theorem lw_r3 : ∀ q ∈ lw_privs_3, lw_okq q := List.forall_mem_cons.mpr ⟨lw_p32, List.forall_mem_cons.mpr ⟨lw_p33, List.forall_mem_cons.mpr ⟨lw_p34, List.forall_mem_cons.mpr ⟨lw_p35, List.forall_mem_cons.mpr ⟨lw_p36, List.forall_mem_cons.mpr ⟨lw_p37, List.forall_mem_cons.mpr ⟨lw_p38, List.forall_mem_cons.mpr ⟨lw_p39, List.forall_mem_cons.mpr ⟨lw_p40, List.forall_mem_cons.mpr ⟨lw_p41, List.forall_mem_cons.mpr ⟨lw_p42, List.forall_mem_cons.mpr ⟨lw_p43, List.forall_mem_cons.mpr ⟨lw_p44, List.forall_mem_cons.mpr ⟨lw_p45, List.forall_mem_cons.mpr ⟨lw_p46, List.forall_mem_cons.mpr ⟨lw_p47, fun _ h => absurd h List.not_mem_nil⟩⟩⟩⟩⟩⟩⟩⟩⟩⟩⟩⟩⟩⟩⟩⟩
theorem lw_p48 : lw_okq (⟨"WorkedBackModel", "agreesChanged", "(IIIII)Z"⟩, 26) := ⟨⟨by decide +kernel, by decide +kernel⟩, List.mem_of_getElem? (i := 1141) (by decide +kernel), List.mem_of_getElem? (i := 1409) (by decide +kernel), List.mem_of_getElem? (i := 1410) (by decide +kernel)⟩
theorem lw_p49 : lw_okq (⟨"WorkedBackModel", "costOf", "(III)I"⟩, 26) := ⟨⟨by decide +kernel, by decide +kernel⟩, List.mem_of_getElem? (i := 1141) (by decide +kernel), List.mem_of_getElem? (i := 1417) (by decide +kernel), List.mem_of_getElem? (i := 1418) (by decide +kernel)⟩
theorem lw_p50 : lw_okq (⟨"WorkedBackModel", "layOpen", "(I)V"⟩, 26) := ⟨⟨by decide +kernel, by decide +kernel⟩, List.mem_of_getElem? (i := 1141) (by decide +kernel), List.mem_of_getElem? (i := 1433) (by decide +kernel), List.mem_of_getElem? (i := 1434) (by decide +kernel)⟩
theorem lw_p51 : lw_okq (⟨"WorkedBackModel", "mostBy", "(II)I"⟩, 26) := ⟨⟨by decide +kernel, by decide +kernel⟩, List.mem_of_getElem? (i := 1141) (by decide +kernel), List.mem_of_getElem? (i := 1437) (by decide +kernel), List.mem_of_getElem? (i := 1438) (by decide +kernel)⟩
theorem lw_p52 : lw_okq (⟨"WorkedBackModel", "countTried", "(I)I"⟩, 26) := ⟨⟨by decide +kernel, by decide +kernel⟩, List.mem_of_getElem? (i := 1141) (by decide +kernel), List.mem_of_getElem? (i := 1441) (by decide +kernel), List.mem_of_getElem? (i := 1442) (by decide +kernel)⟩
def lw_privs_4 : List (MethodName × Nat) := [(⟨"WorkedBackModel", "agreesChanged", "(IIIII)Z"⟩, 26), (⟨"WorkedBackModel", "costOf", "(III)I"⟩, 26), (⟨"WorkedBackModel", "layOpen", "(I)V"⟩, 26), (⟨"WorkedBackModel", "mostBy", "(II)I"⟩, 26), (⟨"WorkedBackModel", "countTried", "(I)I"⟩, 26)]
theorem lw_r4 : ∀ q ∈ lw_privs_4, lw_okq q := List.forall_mem_cons.mpr ⟨lw_p48, List.forall_mem_cons.mpr ⟨lw_p49, List.forall_mem_cons.mpr ⟨lw_p50, List.forall_mem_cons.mpr ⟨lw_p51, List.forall_mem_cons.mpr ⟨lw_p52, fun _ h => absurd h List.not_mem_nil⟩⟩⟩⟩⟩
def lw_privs : List (MethodName × Nat) := lw_privs_1 ++ (lw_privs_2 ++ (lw_privs_3 ++ (lw_privs_4)))
def lw_tbl : List Cond := k2_sels lw_privs ++ tables_1
theorem lw_privs_ok : ∀ q ∈ lw_privs, lw_okq q := by
  show ∀ q ∈ lw_privs_1 ++ (lw_privs_2 ++ (lw_privs_3 ++ (lw_privs_4))), lw_okq q
  exact List.forall_mem_append.mpr ⟨lw_r1, List.forall_mem_append.mpr ⟨lw_r2, List.forall_mem_append.mpr ⟨lw_r3, lw_r4⟩⟩⟩
def RX0 : String := "WorkedBack$Book"
def TX0 : u_T := fun k => match k with
  | 0 => ("WorkedBack$Book", "months", "I", false)
  | 1 => ("WorkedBack$Book", "cells", "[I", true)
  | 2 => ("WorkedBack$Book", "stocks", "[I", true)
  | 3 => ("WorkedBack$Book", "stander", "I", false)
  | 4 => ("WorkedBack$Book", "stoodFor", "I", false)
  | 5 => ("WorkedBack$Book", "boths", "I", false)
  | 6 => ("WorkedBack$Book", "kept", "LWorkedBack$Mixtures;", true)
  | _ => ("WorkedBack$Book", "turn", "I", false)
def tyX0 : Nat → FieldType := fun k => match k with
  | 0 => .int
  | 1 => .array .int
  | 2 => .array .int
  | 3 => .int
  | 4 => .int
  | 5 => .int
  | 6 => .object "WorkedBack$Mixtures"
  | _ => .int
abbrev wsX00 : List Cond := u_ws RX0 TX0 8
theorem nmX0 : ∀ a, a < 8 → ∀ b, b < 8 → a ≠ b → (TX0 a).2.1 ≠ (TX0 b).2.1 := by decide +kernel
theorem tyX0_ok : ∀ k, k < 8 → parseFieldDescriptor (TX0 k).2.2.1 = some (tyX0 k) := by decide +kernel
abbrev cX0_init : ByteArray := prog_2_method_1_code
def yX0_init : MethodName := ⟨RX0, "<init>", "()V"⟩
abbrev cX0_copy : ByteArray := prog_2_method_2_code
def yX0_copy : MethodName := ⟨RX0, "copy", "(LWorkedBack$Book;)V"⟩
abbrev cX0_addMonth : ByteArray := prog_2_method_3_code
def yX0_addMonth : MethodName := ⟨RX0, "addMonth", "()I"⟩
abbrev cX0_dropMonth : ByteArray := prog_2_method_4_code
def yX0_dropMonth : MethodName := ⟨RX0, "dropMonth", "()I"⟩
abbrev cX0_cell : ByteArray := prog_2_method_5_code
def yX0_cell : MethodName := ⟨RX0, "cell", "(II)I"⟩
abbrev cX0_setCell : ByteArray := prog_2_method_6_code
def yX0_setCell : MethodName := ⟨RX0, "setCell", "(III)V"⟩
abbrev cX0_stockCell : ByteArray := prog_2_method_7_code
def yX0_stockCell : MethodName := ⟨RX0, "stockCell", "(II)I"⟩
abbrev cX0_setStockCell : ByteArray := prog_2_method_8_code
def yX0_setStockCell : MethodName := ⟨RX0, "setStockCell", "(III)V"⟩
abbrev cX0_standing : ByteArray := prog_2_method_9_code
def yX0_standing : MethodName := ⟨RX0, "standing", "()I"⟩
abbrev cX0_setStanding : ByteArray := prog_2_method_10_code
def yX0_setStanding : MethodName := ⟨RX0, "setStanding", "(II)V"⟩
abbrev cX0_setBoths : ByteArray := prog_2_method_11_code
def yX0_setBoths : MethodName := ⟨RX0, "setBoths", "(I)V"⟩
abbrev cX0_standsIn : ByteArray := prog_2_method_12_code
def yX0_standsIn : MethodName := ⟨RX0, "standsIn", "(I)Z"⟩
abbrev cX0_guestOf : ByteArray := prog_2_method_13_code
def yX0_guestOf : MethodName := ⟨RX0, "guestOf", "(I)I"⟩
abbrev cX0_ownNeed : ByteArray := prog_2_method_14_code
def yX0_ownNeed : MethodName := ⟨RX0, "ownNeed", "(III)I"⟩
abbrev cX0_guestNeed : ByteArray := prog_2_method_15_code
def yX0_guestNeed : MethodName := ⟨RX0, "guestNeed", "(III)I"⟩
abbrev cX0_needOfPair : ByteArray := prog_2_method_16_code
def yX0_needOfPair : MethodName := ⟨RX0, "needOfPair", "(II)I"⟩
abbrev cX0_neededBy : ByteArray := prog_2_method_17_code
def yX0_neededBy : MethodName := ⟨RX0, "neededBy", "(III)I"⟩
abbrev cX0_priceOf : ByteArray := prog_2_method_18_code
def yX0_priceOf : MethodName := ⟨RX0, "priceOf", "(II)I"⟩
def RX1 : String := "WorkedBack$Break"
def TX1 : u_T := fun k => match k with
  | 0 => ("WorkedBack$Break", "works", "LWorkedBack$Works;", true)
  | 1 => ("WorkedBack$Break", "mesh", "LWorkedBack$Mesh;", true)
  | 2 => ("WorkedBack$Break", "starts", "LWorkedBack$Mixtures;", true)
  | 3 => ("WorkedBack$Break", "laters", "[I", true)
  | 4 => ("WorkedBack$Break", "partner", "I", false)
  | 5 => ("WorkedBack$Break", "turn", "I", false)
  | 6 => ("WorkedBack$Break", "month", "I", false)
  | 7 => ("WorkedBack$Break", "thing", "I", false)
  | 8 => ("WorkedBack$Break", "before", "I", false)
  | _ => ("WorkedBack$Break", "behind", "I", false)
def tyX1 : Nat → FieldType := fun k => match k with
  | 0 => .object "WorkedBack$Works"
  | 1 => .object "WorkedBack$Mesh"
  | 2 => .object "WorkedBack$Mixtures"
  | 3 => .array .int
  | 4 => .int
  | 5 => .int
  | 6 => .int
  | 7 => .int
  | 8 => .int
  | _ => .int
abbrev wsX10 : List Cond := u_ws RX1 TX1 10
theorem nmX1 : ∀ a, a < 10 → ∀ b, b < 10 → a ≠ b → (TX1 a).2.1 ≠ (TX1 b).2.1 := by decide +kernel
theorem tyX1_ok : ∀ k, k < 10 → parseFieldDescriptor (TX1 k).2.2.1 = some (tyX1 k) := by decide +kernel
abbrev cX1_init : ByteArray := prog_3_method_1_code
def yX1_init : MethodName := ⟨RX1, "<init>", "(LWorkedBack$Works;)V"⟩
abbrev cX1_seek : ByteArray := prog_3_method_2_code
def yX1_seek : MethodName := ⟨RX1, "seek", "()V"⟩
abbrev cX1_partnerOf : ByteArray := prog_3_method_3_code
def yX1_partnerOf : MethodName := ⟨RX1, "partnerOf", "(I)I"⟩
abbrev cX1_hasLaters : ByteArray := prog_3_method_4_code
def yX1_hasLaters : MethodName := ⟨RX1, "hasLaters", "(II)Z"⟩
abbrev cX1_latersOf : ByteArray := prog_3_method_5_code
def yX1_latersOf : MethodName := ⟨RX1, "latersOf", "(III)I"⟩
abbrev cX1_latersWith : ByteArray := prog_3_method_6_code
def yX1_latersWith : MethodName := ⟨RX1, "latersWith", "(IIIII)I"⟩
abbrev cX1_hasStarts : ByteArray := prog_3_method_7_code
def yX1_hasStarts : MethodName := ⟨RX1, "hasStarts", "(I)Z"⟩
abbrev cX1_isFound : ByteArray := prog_3_method_8_code
def yX1_isFound : MethodName := ⟨RX1, "isFound", "(I)Z"⟩
abbrev cX1_isFoundFrom : ByteArray := prog_3_method_9_code
def yX1_isFoundFrom : MethodName := ⟨RX1, "isFoundFrom", "(II)Z"⟩
def RX2 : String := "WorkedBack$Course"
def TX2 : u_T := fun k => match k with
  | 0 => ("WorkedBack$Course", "room", "I", true)
  | 1 => ("WorkedBack$Course", "need", "[I", true)
  | 2 => ("WorkedBack$Course", "ownNeeds", "[I", true)
  | 3 => ("WorkedBack$Course", "guestNeeds", "[I", true)
  | 4 => ("WorkedBack$Course", "ahead", "[I", true)
  | 5 => ("WorkedBack$Course", "onward", "[I", true)
  | 6 => ("WorkedBack$Course", "mesh", "LWorkedBack$Mesh;", true)
  | 7 => ("WorkedBack$Course", "thing", "I", false)
  | 8 => ("WorkedBack$Course", "guest", "I", false)
  | _ => ("WorkedBack$Course", "keys", "I", false)
def tyX2 : Nat → FieldType := fun k => match k with
  | 0 => .int
  | 1 => .array .int
  | 2 => .array .int
  | 3 => .array .int
  | 4 => .array .int
  | 5 => .array .int
  | 6 => .object "WorkedBack$Mesh"
  | 7 => .int
  | 8 => .int
  | _ => .int
abbrev wsX20 : List Cond := u_ws RX2 TX2 10
theorem nmX2 : ∀ a, a < 10 → ∀ b, b < 10 → a ≠ b → (TX2 a).2.1 ≠ (TX2 b).2.1 := by decide +kernel
theorem tyX2_ok : ∀ k, k < 10 → parseFieldDescriptor (TX2 k).2.2.1 = some (tyX2 k) := by decide +kernel
abbrev cX2_init : ByteArray := prog_4_method_1_code
def yX2_init : MethodName := ⟨RX2, "<init>", "(LWorkedBack$Parts;I)V"⟩
abbrev cX2_set : ByteArray := prog_4_method_2_code
def yX2_set : MethodName := ⟨RX2, "set", "(LWorkedBack$Book;II)V"⟩
abbrev cX2_setNeeds : ByteArray := prog_4_method_3_code
def yX2_setNeeds : MethodName := ⟨RX2, "setNeeds", "(LWorkedBack$Book;I)V"⟩
abbrev cX2_strain : ByteArray := prog_4_method_4_code
def yX2_strain : MethodName := ⟨RX2, "strain", "(LWorkedBack$Flow;)V"⟩
abbrev cX2_goesThrough : ByteArray := prog_4_method_5_code
def yX2_goesThrough : MethodName := ⟨RX2, "goesThrough", "(LWorkedBack$Flow;I)Z"⟩
abbrev cX2_chart : ByteArray := prog_4_method_6_code
def yX2_chart : MethodName := ⟨RX2, "chart", "(LWorkedBack$Flow;)V"⟩
abbrev cX2_chartAhead : ByteArray := prog_4_method_7_code
def yX2_chartAhead : MethodName := ⟨RX2, "chartAhead", "(LWorkedBack$Flow;I)V"⟩
abbrev cX2_chartOnward : ByteArray := prog_4_method_8_code
def yX2_chartOnward : MethodName := ⟨RX2, "chartOnward", "(LWorkedBack$Flow;I)V"⟩
abbrev cX2_needAt : ByteArray := prog_4_method_9_code
def yX2_needAt : MethodName := ⟨RX2, "needAt", "(II)I"⟩
abbrev cX2_aheadOf : ByteArray := prog_4_method_10_code
def yX2_aheadOf : MethodName := ⟨RX2, "aheadOf", "(II)I"⟩
abbrev cX2_onwardFrom : ByteArray := prog_4_method_11_code
def yX2_onwardFrom : MethodName := ⟨RX2, "onwardFrom", "(II)I"⟩
abbrev cX2_isPlace : ByteArray := prog_4_method_12_code
def yX2_isPlace : MethodName := ⟨RX2, "isPlace", "(II)Z"⟩
abbrev cX2_onwardPairs : ByteArray := prog_4_method_13_code
def yX2_onwardPairs : MethodName := ⟨RX2, "onwardPairs", "(IIIII)I"⟩
def RX3 : String := "WorkedBack$Flow"
def TX3 : u_T := fun k => match k with
  | 0 => ("WorkedBack$Flow", "months", "I", false)
  | 1 => ("WorkedBack$Flow", "leastIn", "[I", true)
  | 2 => ("WorkedBack$Flow", "mostIn", "[I", true)
  | 3 => ("WorkedBack$Flow", "firstLeast", "I", false)
  | 4 => ("WorkedBack$Flow", "firstMost", "I", false)
  | 5 => ("WorkedBack$Flow", "holds", "I", false)
  | 6 => ("WorkedBack$Flow", "lost", "I", false)
  | 7 => ("WorkedBack$Flow", "low", "I", false)
  | _ => ("WorkedBack$Flow", "high", "I", false)
def tyX3 : Nat → FieldType := fun k => match k with
  | 0 => .int
  | 1 => .array .int
  | 2 => .array .int
  | 3 => .int
  | 4 => .int
  | 5 => .int
  | 6 => .int
  | 7 => .int
  | _ => .int
abbrev wsX30 : List Cond := u_ws RX3 TX3 9
theorem nmX3 : ∀ a, a < 9 → ∀ b, b < 9 → a ≠ b → (TX3 a).2.1 ≠ (TX3 b).2.1 := by decide +kernel
theorem tyX3_ok : ∀ k, k < 9 → parseFieldDescriptor (TX3 k).2.2.1 = some (tyX3 k) := by decide +kernel
abbrev cX3_init : ByteArray := prog_5_method_1_code
def yX3_init : MethodName := ⟨RX3, "<init>", "()V"⟩
abbrev cX3_set : ByteArray := prog_5_method_2_code
def yX3_set : MethodName := ⟨RX3, "set", "(LWorkedBack$Book;III)V"⟩
abbrev cX3_begin : ByteArray := prog_5_method_3_code
def yX3_begin : MethodName := ⟨RX3, "begin", "()V"⟩
abbrev cX3_go : ByteArray := prog_5_method_4_code
def yX3_go : MethodName := ⟨RX3, "go", "(II)Z"⟩
abbrev cX3_beginBehind : ByteArray := prog_5_method_5_code
def yX3_beginBehind : MethodName := ⟨RX3, "beginBehind", "()V"⟩
abbrev cX3_goBack : ByteArray := prog_5_method_6_code
def yX3_goBack : MethodName := ⟨RX3, "goBack", "(II)Z"⟩
def RX4 : String := "WorkedBack$Mesh"
def TX4 : u_T := fun k => match k with
  | 0 => ("WorkedBack$Mesh", "parts", "LWorkedBack$Parts;", true)
  | 1 => ("WorkedBack$Mesh", "low", "[J", true)
  | 2 => ("WorkedBack$Mesh", "high", "[J", true)
  | 3 => ("WorkedBack$Mesh", "thing", "I", false)
  | _ => ("WorkedBack$Mesh", "other", "I", false)
def tyX4 : Nat → FieldType := fun k => match k with
  | 0 => .object "WorkedBack$Parts"
  | 1 => .array .long
  | 2 => .array .long
  | 3 => .int
  | _ => .int
abbrev wsX40 : List Cond := u_ws RX4 TX4 5
theorem nmX4 : ∀ a, a < 5 → ∀ b, b < 5 → a ≠ b → (TX4 a).2.1 ≠ (TX4 b).2.1 := by decide +kernel
theorem tyX4_ok : ∀ k, k < 5 → parseFieldDescriptor (TX4 k).2.2.1 = some (tyX4 k) := by decide +kernel
abbrev cX4_init : ByteArray := prog_6_method_1_code
def yX4_init : MethodName := ⟨RX4, "<init>", "(LWorkedBack$Parts;)V"⟩
abbrev cX4_close : ByteArray := prog_6_method_2_code
def yX4_close : MethodName := ⟨RX4, "close", "(II)V"⟩
abbrev cX4_pass : ByteArray := prog_6_method_3_code
def yX4_pass : MethodName := ⟨RX4, "pass", "(II)V"⟩
abbrev cX4_narrow : ByteArray := prog_6_method_4_code
def yX4_narrow : MethodName := ⟨RX4, "narrow", "(LWorkedBack$Mixtures;)V"⟩
def RX5 : String := "WorkedBack$Mixtures"
def TX5 : u_T := fun k => match k with
  | _ => ("WorkedBack$Mixtures", "words", "[J", true)
def tyX5 : Nat → FieldType := fun k => match k with
  | _ => .array .long
abbrev wsX50 : List Cond := u_ws RX5 TX5 1
theorem nmX5 : ∀ a, a < 1 → ∀ b, b < 1 → a ≠ b → (TX5 a).2.1 ≠ (TX5 b).2.1 := by decide +kernel
theorem tyX5_ok : ∀ k, k < 1 → parseFieldDescriptor (TX5 k).2.2.1 = some (tyX5 k) := by decide +kernel
abbrev cX5_init : ByteArray := prog_7_method_1_code
def yX5_init : MethodName := ⟨RX5, "<init>", "()V"⟩
abbrev cX5_low : ByteArray := prog_7_method_2_code
def yX5_low : MethodName := ⟨RX5, "low", "(I)J"⟩
abbrev cX5_high : ByteArray := prog_7_method_3_code
def yX5_high : MethodName := ⟨RX5, "high", "(I)J"⟩
abbrev cX5_addAll : ByteArray := prog_7_method_4_code
def yX5_addAll : MethodName := ⟨RX5, "addAll", "()V"⟩
abbrev cX5_removeAll : ByteArray := prog_7_method_5_code
def yX5_removeAll : MethodName := ⟨RX5, "removeAll", "()V"⟩
abbrev cX5_copy : ByteArray := prog_7_method_6_code
def yX5_copy : MethodName := ⟨RX5, "copy", "(LWorkedBack$Mixtures;)V"⟩
abbrev cX5_join : ByteArray := prog_7_method_7_code
def yX5_join : MethodName := ⟨RX5, "join", "(LWorkedBack$Mixtures;)V"⟩
abbrev cX5_narrow : ByteArray := prog_7_method_8_code
def yX5_narrow : MethodName := ⟨RX5, "narrow", "(IJJ)V"⟩
abbrev cX5_has : ByteArray := prog_7_method_9_code
def yX5_has : MethodName := ⟨RX5, "has", "(I)Z"⟩
abbrev cX5_count : ByteArray := prog_7_method_10_code
def yX5_count : MethodName := ⟨RX5, "count", "()I"⟩
abbrev cX5_next : ByteArray := prog_7_method_11_code
def yX5_next : MethodName := ⟨RX5, "next", "(I)I"⟩
abbrev cX5_nth : ByteArray := prog_7_method_12_code
def yX5_nth : MethodName := ⟨RX5, "nth", "(I)I"⟩
abbrev cX5_withoutLowest : ByteArray := prog_7_method_13_code
def yX5_withoutLowest : MethodName := ⟨RX5, "withoutLowest", "(JI)J"⟩
abbrev cX5_wordOf : ByteArray := prog_7_method_14_code
def yX5_wordOf : MethodName := ⟨RX5, "wordOf", "(I)I"⟩
abbrev cX5_bitOf : ByteArray := prog_7_method_15_code
def yX5_bitOf : MethodName := ⟨RX5, "bitOf", "(I)I"⟩
abbrev cX5_numberOf : ByteArray := prog_7_method_16_code
def yX5_numberOf : MethodName := ⟨RX5, "numberOf", "(IJ)I"⟩
def RX6 : String := "WorkedBack$Parts"
def TX6 : u_T := fun k => match k with
  | 0 => ("WorkedBack$Parts", "low", "[J", true)
  | 1 => ("WorkedBack$Parts", "high", "[J", true)
  | 2 => ("WorkedBack$Parts", "fewLow", "[J", true)
  | _ => ("WorkedBack$Parts", "fewHigh", "[J", true)
def tyX6 : Nat → FieldType := fun k => match k with
  | 0 => .array .long
  | 1 => .array .long
  | 2 => .array .long
  | _ => .array .long
abbrev wsX60 : List Cond := u_ws RX6 TX6 4
theorem nmX6 : ∀ a, a < 4 → ∀ b, b < 4 → a ≠ b → (TX6 a).2.1 ≠ (TX6 b).2.1 := by decide +kernel
theorem tyX6_ok : ∀ k, k < 4 → parseFieldDescriptor (TX6 k).2.2.1 = some (tyX6 k) := by decide +kernel
abbrev cX6_init : ByteArray := prog_8_method_1_code
def yX6_init : MethodName := ⟨RX6, "<init>", "()V"⟩
abbrev cX6_lowWith : ByteArray := prog_8_method_2_code
def yX6_lowWith : MethodName := ⟨RX6, "lowWith", "(II)J"⟩
abbrev cX6_highWith : ByteArray := prog_8_method_3_code
def yX6_highWith : MethodName := ⟨RX6, "highWith", "(II)J"⟩
abbrev cX6_lowOfThings : ByteArray := prog_8_method_4_code
def yX6_lowOfThings : MethodName := ⟨RX6, "lowOfThings", "(I)J"⟩
abbrev cX6_highOfThings : ByteArray := prog_8_method_5_code
def yX6_highOfThings : MethodName := ⟨RX6, "highOfThings", "(I)J"⟩
def RX7 : String := "WorkedBack$Search"
def TX7 : u_T := fun k => match k with
  | 0 => ("WorkedBack$Search", "works", "LWorkedBack$Works;", true)
  | 1 => ("WorkedBack$Search", "nearTurn", "I", false)
  | 2 => ("WorkedBack$Search", "nearBy", "I", false)
  | 3 => ("WorkedBack$Search", "nearFirst", "I", false)
  | 4 => ("WorkedBack$Search", "doubtTurn", "I", false)
  | 5 => ("WorkedBack$Search", "doubtBits", "I", false)
  | _ => ("WorkedBack$Search", "doubtFirst", "I", false)
def tyX7 : Nat → FieldType := fun k => match k with
  | 0 => .object "WorkedBack$Works"
  | 1 => .int
  | 2 => .int
  | 3 => .int
  | 4 => .int
  | 5 => .int
  | _ => .int
abbrev wsX70 : List Cond := u_ws RX7 TX7 7
theorem nmX7 : ∀ a, a < 7 → ∀ b, b < 7 → a ≠ b → (TX7 a).2.1 ≠ (TX7 b).2.1 := by decide +kernel
theorem tyX7_ok : ∀ k, k < 7 → parseFieldDescriptor (TX7 k).2.2.1 = some (tyX7 k) := by decide +kernel
abbrev cX7_init : ByteArray := prog_9_method_1_code
def yX7_init : MethodName := ⟨RX7, "<init>", "(LWorkedBack$Works;)V"⟩
abbrev cX7_seekNear : ByteArray := prog_9_method_2_code
def yX7_seekNear : MethodName := ⟨RX7, "seekNear", "()V"⟩
abbrev cX7_leastMore : ByteArray := prog_9_method_3_code
def yX7_leastMore : MethodName := ⟨RX7, "leastMore", "()I"⟩
abbrev cX7_seekDoubt : ByteArray := prog_9_method_4_code
def yX7_seekDoubt : MethodName := ⟨RX7, "seekDoubt", "()V"⟩
abbrev cX7_seekDoubtOf : ByteArray := prog_9_method_5_code
def yX7_seekDoubtOf : MethodName := ⟨RX7, "seekDoubtOf", "(I)V"⟩
def RX8 : String := "WorkedBack$Text"
def TX8 : u_T := fun k => match k with
  | 0 => ("WorkedBack$Text", "signs", "[I", true)
  | 1 => ("WorkedBack$Text", "count", "I", false)
  | 2 => ("WorkedBack$Text", "both", "LWorkedBack$Mixtures;", true)
  | 3 => ("WorkedBack$Text", "timesInP", "[I", true)
  | 4 => ("WorkedBack$Text", "timesInQ", "[I", true)
  | 5 => ("WorkedBack$Text", "belowLow", "[J", true)
  | 6 => ("WorkedBack$Text", "belowHigh", "[J", true)
  | 7 => ("WorkedBack$Text", "ware", "I", false)
  | 8 => ("WorkedBack$Text", "relation", "I", false)
  | _ => ("WorkedBack$Text", "number", "I", false)
def tyX8 : Nat → FieldType := fun k => match k with
  | 0 => .array .int
  | 1 => .int
  | 2 => .object "WorkedBack$Mixtures"
  | 3 => .array .int
  | 4 => .array .int
  | 5 => .array .long
  | 6 => .array .long
  | 7 => .int
  | 8 => .int
  | _ => .int
abbrev wsX80 : List Cond := u_ws RX8 TX8 10
theorem nmX8 : ∀ a, a < 10 → ∀ b, b < 10 → a ≠ b → (TX8 a).2.1 ≠ (TX8 b).2.1 := by decide +kernel
theorem tyX8_ok : ∀ k, k < 10 → parseFieldDescriptor (TX8 k).2.2.1 = some (tyX8 k) := by decide +kernel
abbrev cX8_init : ByteArray := prog_10_method_1_code
def yX8_init : MethodName := ⟨RX8, "<init>", "()V"⟩
abbrev cX8_add : ByteArray := prog_10_method_2_code
def yX8_add : MethodName := ⟨RX8, "add", "(I)Z"⟩
abbrev cX8_empty : ByteArray := prog_10_method_3_code
def yX8_empty : MethodName := ⟨RX8, "empty", "()I"⟩
abbrev cX8_firstFault : ByteArray := prog_10_method_4_code
def yX8_firstFault : MethodName := ⟨RX8, "firstFault", "()I"⟩
abbrev cX8_behind : ByteArray := prog_10_method_5_code
def yX8_behind : MethodName := ⟨RX8, "behind", "(II)I"⟩
abbrev cX8_isDigit : ByteArray := prog_10_method_6_code
def yX8_isDigit : MethodName := ⟨RX8, "isDigit", "(I)Z"⟩
abbrev cX8_isRelation : ByteArray := prog_10_method_7_code
def yX8_isRelation : MethodName := ⟨RX8, "isRelation", "(I)Z"⟩
abbrev cX8_isLink : ByteArray := prog_10_method_8_code
def yX8_isLink : MethodName := ⟨RX8, "isLink", "(I)Z"⟩
abbrev cX8_collect : ByteArray := prog_10_method_9_code
def yX8_collect : MethodName := ⟨RX8, "collect", "(LWorkedBack$Mixtures;)I"⟩
abbrev cX8_beginTest : ByteArray := prog_10_method_10_code
def yX8_beginTest : MethodName := ⟨RX8, "beginTest", "()V"⟩
abbrev cX8_readOn : ByteArray := prog_10_method_11_code
def yX8_readOn : MethodName := ⟨RX8, "readOn", "(I)V"⟩
abbrev cX8_endTest : ByteArray := prog_10_method_12_code
def yX8_endTest : MethodName := ⟨RX8, "endTest", "()V"⟩
abbrev cX8_setBelow : ByteArray := prog_10_method_13_code
def yX8_setBelow : MethodName := ⟨RX8, "setBelow", "()V"⟩
abbrev cX8_sumOf : ByteArray := prog_10_method_14_code
def yX8_sumOf : MethodName := ⟨RX8, "sumOf", "([II)I"⟩
abbrev cX8_narrowBoth : ByteArray := prog_10_method_15_code
def yX8_narrowBoth : MethodName := ⟨RX8, "narrowBoth", "(II)V"⟩
def RX9 : String := "WorkedBack$Weighing"
def TX9 : u_T := fun k => match k with
  | 0 => ("WorkedBack$Weighing", "works", "LWorkedBack$Works;", true)
  | 1 => ("WorkedBack$Weighing", "others", "LWorkedBack$Mixtures;", true)
  | 2 => ("WorkedBack$Weighing", "weights", "[I", true)
  | 3 => ("WorkedBack$Weighing", "counts", "[I", true)
  | 4 => ("WorkedBack$Weighing", "mosts", "[I", true)
  | 5 => ("WorkedBack$Weighing", "fitting", "[I", true)
  | _ => ("WorkedBack$Weighing", "turn", "I", false)
def tyX9 : Nat → FieldType := fun k => match k with
  | 0 => .object "WorkedBack$Works"
  | 1 => .object "WorkedBack$Mixtures"
  | 2 => .array .int
  | 3 => .array .int
  | 4 => .array .int
  | 5 => .array .int
  | _ => .int
abbrev wsX90 : List Cond := u_ws RX9 TX9 7
theorem nmX9 : ∀ a, a < 7 → ∀ b, b < 7 → a ≠ b → (TX9 a).2.1 ≠ (TX9 b).2.1 := by decide +kernel
theorem tyX9_ok : ∀ k, k < 7 → parseFieldDescriptor (TX9 k).2.2.1 = some (tyX9 k) := by decide +kernel
abbrev cX9_init : ByteArray := prog_11_method_1_code
def yX9_init : MethodName := ⟨RX9, "<init>", "(LWorkedBack$Works;)V"⟩
abbrev cX9_settling : ByteArray := prog_11_method_2_code
def yX9_settling : MethodName := ⟨RX9, "settling", "()I"⟩
abbrev cX9_mostLeft : ByteArray := prog_11_method_3_code
def yX9_mostLeft : MethodName := ⟨RX9, "mostLeft", "(I)I"⟩
abbrev cX9_hiding : ByteArray := prog_11_method_4_code
def yX9_hiding : MethodName := ⟨RX9, "hiding", "(I)I"⟩
abbrev cX9_isBetter : ByteArray := prog_11_method_5_code
def yX9_isBetter : MethodName := ⟨RX9, "isBetter", "(IIII)Z"⟩
abbrev cX9_hidden : ByteArray := prog_11_method_6_code
def yX9_hidden : MethodName := ⟨RX9, "hidden", "(I)I"⟩
abbrev cX9_weighAll : ByteArray := prog_11_method_7_code
def yX9_weighAll : MethodName := ⟨RX9, "weighAll", "()V"⟩
abbrev cX9_weigh : ByteArray := prog_11_method_8_code
def yX9_weigh : MethodName := ⟨RX9, "weigh", "(LWorkedBack$Course;II)V"⟩
abbrev cX9_count : ByteArray := prog_11_method_9_code
def yX9_count : MethodName := ⟨RX9, "count", "(LWorkedBack$Course;IIII)V"⟩
abbrev cX9_countKey : ByteArray := prog_11_method_10_code
def yX9_countKey : MethodName := ⟨RX9, "countKey", "(LWorkedBack$Course;IIIII)V"⟩
abbrev cX9_setWeights : ByteArray := prog_11_method_11_code
def yX9_setWeights : MethodName := ⟨RX9, "setWeights", "(I)V"⟩
abbrev cX9_addWeights : ByteArray := prog_11_method_12_code
def yX9_addWeights : MethodName := ⟨RX9, "addWeights", "(III)V"⟩
abbrev cX9_addGuestWeights : ByteArray := prog_11_method_13_code
def yX9_addGuestWeights : MethodName := ⟨RX9, "addGuestWeights", "(IIIJJ)V"⟩
def RX10 : String := "WorkedBack$Works"
def TX10 : u_T := fun k => match k with
  | 0 => ("WorkedBack$Works", "book", "LWorkedBack$Book;", true)
  | 1 => ("WorkedBack$Works", "parts", "LWorkedBack$Parts;", true)
  | 2 => ("WorkedBack$Works", "flow", "LWorkedBack$Flow;", true)
  | 3 => ("WorkedBack$Works", "narrow", "[LWorkedBack$Course;", true)
  | 4 => ("WorkedBack$Works", "wide", "LWorkedBack$Course;", true)
  | 5 => ("WorkedBack$Works", "fitting", "LWorkedBack$Mixtures;", true)
  | 6 => ("WorkedBack$Works", "tried", "LWorkedBack$Mixtures;", true)
  | 7 => ("WorkedBack$Works", "madeLow", "[J", true)
  | 8 => ("WorkedBack$Works", "madeHigh", "[J", true)
  | 9 => ("WorkedBack$Works", "holder", "I", false)
  | 10 => ("WorkedBack$Works", "turn", "I", false)
  | 11 => ("WorkedBack$Works", "chartTurn", "I", false)
  | _ => ("WorkedBack$Works", "meshTurn", "I", false)
def tyX10 : Nat → FieldType := fun k => match k with
  | 0 => .object "WorkedBack$Book"
  | 1 => .object "WorkedBack$Parts"
  | 2 => .object "WorkedBack$Flow"
  | 3 => .array (.object "WorkedBack$Course")
  | 4 => .object "WorkedBack$Course"
  | 5 => .object "WorkedBack$Mixtures"
  | 6 => .object "WorkedBack$Mixtures"
  | 7 => .array .long
  | 8 => .array .long
  | 9 => .int
  | 10 => .int
  | 11 => .int
  | _ => .int
abbrev wsX100 : List Cond := u_ws RX10 TX10 13
theorem nmX10 : ∀ a, a < 13 → ∀ b, b < 13 → a ≠ b → (TX10 a).2.1 ≠ (TX10 b).2.1 := by decide +kernel
theorem tyX10_ok : ∀ k, k < 13 → parseFieldDescriptor (TX10 k).2.2.1 = some (tyX10 k) := by decide +kernel
abbrev cX10_init : ByteArray := prog_12_method_1_code
def yX10_init : MethodName := ⟨RX10, "<init>", "(LWorkedBack$Book;)V"⟩
abbrev cX10_course : ByteArray := prog_12_method_2_code
def yX10_course : MethodName := ⟨RX10, "course", "(I)LWorkedBack$Course;"⟩
abbrev cX10_update : ByteArray := prog_12_method_3_code
def yX10_update : MethodName := ⟨RX10, "update", "()V"⟩
abbrev cX10_strain : ByteArray := prog_12_method_4_code
def yX10_strain : MethodName := ⟨RX10, "strain", "()V"⟩
abbrev cX10_firstBy : ByteArray := prog_12_method_5_code
def yX10_firstBy : MethodName := ⟨RX10, "firstBy", "(II)I"⟩
abbrev cX10_sift : ByteArray := prog_12_method_6_code
def yX10_sift : MethodName := ⟨RX10, "sift", "(LWorkedBack$Mixtures;I)V"⟩
abbrev cX10_chart : ByteArray := prog_12_method_7_code
def yX10_chart : MethodName := ⟨RX10, "chart", "()V"⟩
abbrev cX10_first : ByteArray := prog_12_method_8_code
def yX10_first : MethodName := ⟨RX10, "first", "()I"⟩
abbrev cX10_goesTill : ByteArray := prog_12_method_9_code
def yX10_goesTill : MethodName := ⟨RX10, "goesTill", "(III)I"⟩
abbrev cX10_judged : ByteArray := prog_12_method_10_code
def yX10_judged : MethodName := ⟨RX10, "judged", "(I)I"⟩
abbrev cX10_setMade : ByteArray := prog_12_method_11_code
def yX10_setMade : MethodName := ⟨RX10, "setMade", "()V"⟩
abbrev cX10_amounts : ByteArray := prog_12_method_12_code
def yX10_amounts : MethodName := ⟨RX10, "amounts", "(II)I"⟩
abbrev cX10_inEvery : ByteArray := prog_12_method_13_code
def yX10_inEvery : MethodName := ⟨RX10, "inEvery", "()I"⟩
abbrev cX10_inNone : ByteArray := prog_12_method_14_code
def yX10_inNone : MethodName := ⟨RX10, "inNone", "()I"⟩
abbrev cX10_plainest : ByteArray := prog_12_method_15_code
def yX10_plainest : MethodName := ⟨RX10, "plainest", "()I"⟩
abbrev cX10_firstWith : ByteArray := prog_12_method_16_code
def yX10_firstWith : MethodName := ⟨RX10, "firstWith", "(II)I"⟩
abbrev cX10_endOfPrices : ByteArray := prog_12_method_17_code
def yX10_endOfPrices : MethodName := ⟨RX10, "endOfPrices", "(III)I"⟩
abbrev cX10_pairs : ByteArray := prog_12_method_18_code
def yX10_pairs : MethodName := ⟨RX10, "pairs", "(I)I"⟩
def RX11 : String := "WorkedBack"
def TX11 : u_T := fun k => match k with
  | 0 => ("WorkedBack", "book", "LWorkedBack$Book;", true)
  | 1 => ("WorkedBack", "images", "[LWorkedBack$Book;", true)
  | 2 => ("WorkedBack", "imaged", "[Z", true)
  | 3 => ("WorkedBack", "text", "LWorkedBack$Text;", true)
  | 4 => ("WorkedBack", "works", "LWorkedBack$Works;", true)
  | 5 => ("WorkedBack", "search", "LWorkedBack$Search;", true)
  | 6 => ("WorkedBack", "broken", "LWorkedBack$Break;", true)
  | _ => ("WorkedBack", "weighing", "LWorkedBack$Weighing;", true)
def tyX11 : Nat → FieldType := fun k => match k with
  | 0 => .object "WorkedBack$Book"
  | 1 => .array (.object "WorkedBack$Book")
  | 2 => .array .boolean
  | 3 => .object "WorkedBack$Text"
  | 4 => .object "WorkedBack$Works"
  | 5 => .object "WorkedBack$Search"
  | 6 => .object "WorkedBack$Break"
  | _ => .object "WorkedBack$Weighing"
abbrev wsX110 : List Cond := u_ws RX11 TX11 8
theorem nmX11 : ∀ a, a < 8 → ∀ b, b < 8 → a ≠ b → (TX11 a).2.1 ≠ (TX11 b).2.1 := by decide +kernel
theorem tyX11_ok : ∀ k, k < 8 → parseFieldDescriptor (TX11 k).2.2.1 = some (tyX11 k) := by decide +kernel
abbrev cX11_init : ByteArray := prog_1_method_1_code
def yX11_init : MethodName := ⟨RX11, "<init>", "()V"⟩
abbrev cX11_month : ByteArray := prog_1_method_2_code
def yX11_month : MethodName := ⟨RX11, "month", "(IIIIII)I"⟩
abbrev cX11_change : ByteArray := prog_1_method_3_code
def yX11_change : MethodName := ⟨RX11, "change", "(III)I"⟩
abbrev cX11_about : ByteArray := prog_1_method_4_code
def yX11_about : MethodName := ⟨RX11, "about", "(II)I"⟩
abbrev cX11_tear : ByteArray := prog_1_method_5_code
def yX11_tear : MethodName := ⟨RX11, "tear", "()I"⟩
abbrev cX11_stock : ByteArray := prog_1_method_6_code
def yX11_stock : MethodName := ⟨RX11, "stock", "(III)I"⟩
abbrev cX11_stand : ByteArray := prog_1_method_7_code
def yX11_stand : MethodName := ⟨RX11, "stand", "(II)I"⟩
abbrev cX11_say : ByteArray := prog_1_method_8_code
def yX11_say : MethodName := ⟨RX11, "say", "(I)I"⟩
abbrev cX11_wipe : ByteArray := prog_1_method_9_code
def yX11_wipe : MethodName := ⟨RX11, "wipe", "()I"⟩
abbrev cX11_fault : ByteArray := prog_1_method_10_code
def yX11_fault : MethodName := ⟨RX11, "fault", "()I"⟩
abbrev cX11_rule : ByteArray := prog_1_method_11_code
def yX11_rule : MethodName := ⟨RX11, "rule", "()I"⟩
abbrev cX11_free : ByteArray := prog_1_method_12_code
def yX11_free : MethodName := ⟨RX11, "free", "()I"⟩
abbrev cX11_fits : ByteArray := prog_1_method_13_code
def yX11_fits : MethodName := ⟨RX11, "fits", "(II)I"⟩
abbrev cX11_needs : ByteArray := prog_1_method_14_code
def yX11_needs : MethodName := ⟨RX11, "needs", "(III)I"⟩
abbrev cX11_judge : ByteArray := prog_1_method_15_code
def yX11_judge : MethodName := ⟨RX11, "judge", "(II)I"⟩
abbrev cX11_lies : ByteArray := prog_1_method_16_code
def yX11_lies : MethodName := ⟨RX11, "lies", "(IIII)I"⟩
abbrev cX11_all : ByteArray := prog_1_method_17_code
def yX11_all : MethodName := ⟨RX11, "all", "(I)I"⟩
abbrev cX11_ends : ByteArray := prog_1_method_18_code
def yX11_ends : MethodName := ⟨RX11, "ends", "(III)I"⟩
abbrev cX11_must : ByteArray := prog_1_method_19_code
def yX11_must : MethodName := ⟨RX11, "must", "(I)I"⟩
abbrev cX11_plain : ByteArray := prog_1_method_20_code
def yX11_plain : MethodName := ⟨RX11, "plain", "(I)I"⟩
abbrev cX11_near : ByteArray := prog_1_method_21_code
def yX11_near : MethodName := ⟨RX11, "near", "(I)I"⟩
abbrev cX11_doubt : ByteArray := prog_1_method_22_code
def yX11_doubt : MethodName := ⟨RX11, "doubt", "(I)I"⟩
abbrev cX11_changed : ByteArray := prog_1_method_23_code
def yX11_changed : MethodName := ⟨RX11, "changed", "(I)I"⟩
abbrev cX11_cost : ByteArray := prog_1_method_24_code
def yX11_cost : MethodName := ⟨RX11, "cost", "(III)I"⟩
abbrev cX11_costs : ByteArray := prog_1_method_25_code
def yX11_costs : MethodName := ⟨RX11, "costs", "(III)I"⟩
abbrev cX11_buy : ByteArray := prog_1_method_26_code
def yX11_buy : MethodName := ⟨RX11, "buy", "(IIII)I"⟩
abbrev cX11_settle : ByteArray := prog_1_method_27_code
def yX11_settle : MethodName := ⟨RX11, "settle", "(I)I"⟩
abbrev cX11_hide : ByteArray := prog_1_method_28_code
def yX11_hide : MethodName := ⟨RX11, "hide", "(II)I"⟩
abbrev cX11_image : ByteArray := prog_1_method_29_code
def yX11_image : MethodName := ⟨RX11, "image", "(I)I"⟩
abbrev cX11_restore : ByteArray := prog_1_method_30_code
def yX11_restore : MethodName := ⟨RX11, "restore", "(I)I"⟩
abbrev cX11_told : ByteArray := prog_1_method_31_code
def yX11_told : MethodName := ⟨RX11, "told", "(I)I"⟩
abbrev cX11_within : ByteArray := prog_1_method_32_code
def yX11_within : MethodName := ⟨RX11, "within", "(II)Z"⟩
abbrev cX11_isThing : ByteArray := prog_1_method_33_code
def yX11_isThing : MethodName := ⟨RX11, "isThing", "(I)Z"⟩
abbrev cX11_isWare : ByteArray := prog_1_method_34_code
def yX11_isWare : MethodName := ⟨RX11, "isWare", "(I)Z"⟩
abbrev cX11_isMixture : ByteArray := prog_1_method_35_code
def yX11_isMixture : MethodName := ⟨RX11, "isMixture", "(I)Z"⟩
abbrev cX11_isMonth : ByteArray := prog_1_method_36_code
def yX11_isMonth : MethodName := ⟨RX11, "isMonth", "(I)Z"⟩
abbrev cX11_amountIn : ByteArray := prog_1_method_37_code
def yX11_amountIn : MethodName := ⟨RX11, "amountIn", "(II)I"⟩
abbrev cX11_pairOf : ByteArray := prog_1_method_38_code
def yX11_pairOf : MethodName := ⟨RX11, "pairOf", "(II)I"⟩
abbrev cX11_withPair : ByteArray := prog_1_method_39_code
def yX11_withPair : MethodName := ⟨RX11, "withPair", "(III)I"⟩
abbrev cX11_thingsInPart : ByteArray := prog_1_method_40_code
def yX11_thingsInPart : MethodName := ⟨RX11, "thingsInPart", "(I)I"⟩
abbrev cX11_lowestPlace : ByteArray := prog_1_method_41_code
def yX11_lowestPlace : MethodName := ⟨RX11, "lowestPlace", "(J)I"⟩
abbrev cX11_highestPlace : ByteArray := prog_1_method_42_code
def yX11_highestPlace : MethodName := ⟨RX11, "highestPlace", "(I)I"⟩
abbrev cX11_endOfNeeds : ByteArray := prog_1_method_43_code
def yX11_endOfNeeds : MethodName := ⟨RX11, "endOfNeeds", "(IIII)I"⟩
abbrev cX11_spanOf : ByteArray := prog_1_method_44_code
def yX11_spanOf : MethodName := ⟨RX11, "spanOf", "(II)I"⟩
abbrev cX11_lowOf : ByteArray := prog_1_method_45_code
def yX11_lowOf : MethodName := ⟨RX11, "lowOf", "(I)I"⟩
abbrev cX11_highOf : ByteArray := prog_1_method_46_code
def yX11_highOf : MethodName := ⟨RX11, "highOf", "(I)I"⟩
def RX12 : String := "WorkedBackModel"
def TX12 : u_T := fun k => match k with
  | 0 => ("WorkedBackModel", "months", "I", false)
  | 1 => ("WorkedBackModel", "book", "[I", true)
  | 2 => ("WorkedBackModel", "stocks", "[I", true)
  | 3 => ("WorkedBackModel", "stands", "I", false)
  | 4 => ("WorkedBackModel", "other", "I", false)
  | 5 => ("WorkedBackModel", "signs", "I", false)
  | 6 => ("WorkedBackModel", "sign", "[I", true)
  | 7 => ("WorkedBackModel", "ruled", "I", false)
  | 8 => ("WorkedBackModel", "ruleSign", "[I", true)
  | 9 => ("WorkedBackModel", "isLaid", "Z", false)
  | 10 => ("WorkedBackModel", "more", "I", false)
  | 11 => ("WorkedBackModel", "doubted", "I", false)
  | 12 => ("WorkedBackModel", "triedMonth", "I", false)
  | 13 => ("WorkedBackModel", "triedThing", "I", false)
  | 14 => ("WorkedBackModel", "tried", "I", false)
  | 15 => ("WorkedBackModel", "low", "I", false)
  | 16 => ("WorkedBackModel", "high", "I", false)
  | 17 => ("WorkedBackModel", "agree", "[Z", true)
  | 18 => ("WorkedBackModel", "kept", "[Z", true)
  | 19 => ("WorkedBackModel", "fit", "[Z", true)
  | 20 => ("WorkedBackModel", "fitting", "I", false)
  | 21 => ("WorkedBackModel", "memo", "[B", true)
  | 22 => ("WorkedBackModel", "changedTo", "I", false)
  | 23 => ("WorkedBackModel", "open", "[I", true)
  | 24 => ("WorkedBackModel", "image", "[I", true)
  | _ => ("WorkedBackModel", "isKept", "[Z", true)
def tyX12 : Nat → FieldType := fun k => match k with
  | 0 => .int
  | 1 => .array .int
  | 2 => .array .int
  | 3 => .int
  | 4 => .int
  | 5 => .int
  | 6 => .array .int
  | 7 => .int
  | 8 => .array .int
  | 9 => .boolean
  | 10 => .int
  | 11 => .int
  | 12 => .int
  | 13 => .int
  | 14 => .int
  | 15 => .int
  | 16 => .int
  | 17 => .array .boolean
  | 18 => .array .boolean
  | 19 => .array .boolean
  | 20 => .int
  | 21 => .array .byte
  | 22 => .int
  | 23 => .array .int
  | 24 => .array .int
  | _ => .array .boolean
abbrev wsX120 : List Cond := u_ws RX12 TX12 26
theorem nmX12 : ∀ a, a < 26 → ∀ b, b < 26 → a ≠ b → (TX12 a).2.1 ≠ (TX12 b).2.1 := by decide +kernel
theorem tyX12_ok : ∀ k, k < 26 → parseFieldDescriptor (TX12 k).2.2.1 = some (tyX12 k) := by decide +kernel
abbrev cX12_init : ByteArray := prog_14_method_1_code
def yX12_init : MethodName := ⟨RX12, "<init>", "()V"⟩
abbrev cX12_in : ByteArray := prog_14_method_2_code
def yX12_in : MethodName := ⟨RX12, "in", "(III)Z"⟩
abbrev cX12_isThing : ByteArray := prog_14_method_3_code
def yX12_isThing : MethodName := ⟨RX12, "isThing", "(I)Z"⟩
abbrev cX12_isMonth : ByteArray := prog_14_method_4_code
def yX12_isMonth : MethodName := ⟨RX12, "isMonth", "(I)Z"⟩
abbrev cX12_isMixture : ByteArray := prog_14_method_5_code
def yX12_isMixture : MethodName := ⟨RX12, "isMixture", "(I)Z"⟩
abbrev cX12_mostOf : ByteArray := prog_14_method_6_code
def yX12_mostOf : MethodName := ⟨RX12, "mostOf", "(I)I"⟩
abbrev cX12_month : ByteArray := prog_14_method_7_code
def yX12_month : MethodName := ⟨RX12, "month", "(IIIIII)I"⟩
abbrev cX12_change : ByteArray := prog_14_method_8_code
def yX12_change : MethodName := ⟨RX12, "change", "(III)I"⟩
abbrev cX12_about : ByteArray := prog_14_method_9_code
def yX12_about : MethodName := ⟨RX12, "about", "(II)I"⟩
abbrev cX12_tear : ByteArray := prog_14_method_10_code
def yX12_tear : MethodName := ⟨RX12, "tear", "()I"⟩
abbrev cX12_stock : ByteArray := prog_14_method_11_code
def yX12_stock : MethodName := ⟨RX12, "stock", "(III)I"⟩
abbrev cX12_standOf : ByteArray := prog_14_method_12_code
def yX12_standOf : MethodName := ⟨RX12, "standOf", "()I"⟩
abbrev cX12_stand : ByteArray := prog_14_method_13_code
def yX12_stand : MethodName := ⟨RX12, "stand", "(II)I"⟩
abbrev cX12_say : ByteArray := prog_14_method_14_code
def yX12_say : MethodName := ⟨RX12, "say", "(I)I"⟩
abbrev cX12_wipe : ByteArray := prog_14_method_15_code
def yX12_wipe : MethodName := ⟨RX12, "wipe", "()I"⟩
abbrev cX12_faultOf : ByteArray := prog_14_method_16_code
def yX12_faultOf : MethodName := ⟨RX12, "faultOf", "()I"⟩
abbrev cX12_fault : ByteArray := prog_14_method_17_code
def yX12_fault : MethodName := ⟨RX12, "fault", "()I"⟩
abbrev cX12_boths : ByteArray := prog_14_method_18_code
def yX12_boths : MethodName := ⟨RX12, "boths", "()I"⟩
abbrev cX12_rule : ByteArray := prog_14_method_19_code
def yX12_rule : MethodName := ⟨RX12, "rule", "()I"⟩
abbrev cX12_free : ByteArray := prog_14_method_20_code
def yX12_free : MethodName := ⟨RX12, "free", "()I"⟩
abbrev cX12_digit : ByteArray := prog_14_method_21_code
def yX12_digit : MethodName := ⟨RX12, "digit", "(II)I"⟩
abbrev cX12_keeps : ByteArray := prog_14_method_22_code
def yX12_keeps : MethodName := ⟨RX12, "keeps", "(I)Z"⟩
abbrev cX12_isStoodIn : ByteArray := prog_14_method_23_code
def yX12_isStoodIn : MethodName := ⟨RX12, "isStoodIn", "(I)Z"⟩
abbrev cX12_needOf : ByteArray := prog_14_method_24_code
def yX12_needOf : MethodName := ⟨RX12, "needOf", "(IIII)I"⟩
abbrev cX12_pass : ByteArray := prog_14_method_25_code
def yX12_pass : MethodName := ⟨RX12, "pass", "(III)Z"⟩
abbrev cX12_goes : ByteArray := prog_14_method_26_code
def yX12_goes : MethodName := ⟨RX12, "goes", "(IIIIII)I"⟩
abbrev cX12_amount : ByteArray := prog_14_method_27_code
def yX12_amount : MethodName := ⟨RX12, "amount", "(II)I"⟩
abbrev cX12_goesBy : ByteArray := prog_14_method_28_code
def yX12_goesBy : MethodName := ⟨RX12, "goesBy", "(II)I"⟩
abbrev cX12_layThing : ByteArray := prog_14_method_29_code
def yX12_layThing : MethodName := ⟨RX12, "layThing", "(I)V"⟩
abbrev cX12_layThings : ByteArray := prog_14_method_30_code
def yX12_layThings : MethodName := ⟨RX12, "layThings", "()V"⟩
abbrev cX12_agreesWith : ByteArray := prog_14_method_31_code
def yX12_agreesWith : MethodName := ⟨RX12, "agreesWith", "(II)Z"⟩
abbrev cX12_agreesWithAll : ByteArray := prog_14_method_32_code
def yX12_agreesWithAll : MethodName := ⟨RX12, "agreesWithAll", "(I)Z"⟩
abbrev cX12_lay : ByteArray := prog_14_method_33_code
def yX12_lay : MethodName := ⟨RX12, "lay", "()I"⟩
abbrev cX12_fits : ByteArray := prog_14_method_34_code
def yX12_fits : MethodName := ⟨RX12, "fits", "(II)I"⟩
abbrev cX12_needs : ByteArray := prog_14_method_35_code
def yX12_needs : MethodName := ⟨RX12, "needs", "(III)I"⟩
abbrev cX12_judge : ByteArray := prog_14_method_36_code
def yX12_judge : MethodName := ⟨RX12, "judge", "(II)I"⟩
abbrev cX12_lies : ByteArray := prog_14_method_37_code
def yX12_lies : MethodName := ⟨RX12, "lies", "(IIII)I"⟩
abbrev cX12_all : ByteArray := prog_14_method_38_code
def yX12_all : MethodName := ⟨RX12, "all", "(I)I"⟩
abbrev cX12_ends : ByteArray := prog_14_method_39_code
def yX12_ends : MethodName := ⟨RX12, "ends", "(III)I"⟩
abbrev cX12_must : ByteArray := prog_14_method_40_code
def yX12_must : MethodName := ⟨RX12, "must", "(I)I"⟩
abbrev cX12_things : ByteArray := prog_14_method_41_code
def yX12_things : MethodName := ⟨RX12, "things", "(I)I"⟩
abbrev cX12_plain : ByteArray := prog_14_method_42_code
def yX12_plain : MethodName := ⟨RX12, "plain", "(I)I"⟩
abbrev cX12_firstNow : ByteArray := prog_14_method_43_code
def yX12_firstNow : MethodName := ⟨RX12, "firstNow", "()I"⟩
abbrev cX12_near : ByteArray := prog_14_method_44_code
def yX12_near : MethodName := ⟨RX12, "near", "(I)I"⟩
abbrev cX12_bits : ByteArray := prog_14_method_45_code
def yX12_bits : MethodName := ⟨RX12, "bits", "(I)I"⟩
abbrev cX12_doubt : ByteArray := prog_14_method_46_code
def yX12_doubt : MethodName := ⟨RX12, "doubt", "(I)I"⟩
abbrev cX12_agreesChanged : ByteArray := prog_14_method_47_code
def yX12_agreesChanged : MethodName := ⟨RX12, "agreesChanged", "(IIIII)Z"⟩
abbrev cX12_changedFrom : ByteArray := prog_14_method_48_code
def yX12_changedFrom : MethodName := ⟨RX12, "changedFrom", "(II)I"⟩
abbrev cX12_changed : ByteArray := prog_14_method_49_code
def yX12_changed : MethodName := ⟨RX12, "changed", "(I)I"⟩
abbrev cX12_costOf : ByteArray := prog_14_method_50_code
def yX12_costOf : MethodName := ⟨RX12, "costOf", "(III)I"⟩
abbrev cX12_cost : ByteArray := prog_14_method_51_code
def yX12_cost : MethodName := ⟨RX12, "cost", "(III)I"⟩
abbrev cX12_costs : ByteArray := prog_14_method_52_code
def yX12_costs : MethodName := ⟨RX12, "costs", "(III)I"⟩
abbrev cX12_buy : ByteArray := prog_14_method_53_code
def yX12_buy : MethodName := ⟨RX12, "buy", "(IIII)I"⟩
abbrev cX12_layOpen : ByteArray := prog_14_method_54_code
def yX12_layOpen : MethodName := ⟨RX12, "layOpen", "(I)V"⟩
abbrev cX12_countTried : ByteArray := prog_14_method_55_code
def yX12_countTried : MethodName := ⟨RX12, "countTried", "(I)I"⟩
abbrev cX12_settle : ByteArray := prog_14_method_56_code
def yX12_settle : MethodName := ⟨RX12, "settle", "(I)I"⟩
abbrev cX12_mostBy : ByteArray := prog_14_method_57_code
def yX12_mostBy : MethodName := ⟨RX12, "mostBy", "(II)I"⟩
abbrev cX12_hide : ByteArray := prog_14_method_58_code
def yX12_hide : MethodName := ⟨RX12, "hide", "(II)I"⟩
abbrev cX12_image : ByteArray := prog_14_method_59_code
def yX12_image : MethodName := ⟨RX12, "image", "(I)I"⟩
abbrev cX12_restore : ByteArray := prog_14_method_60_code
def yX12_restore : MethodName := ⟨RX12, "restore", "(I)I"⟩
abbrev cX12_told : ByteArray := prog_14_method_61_code
def yX12_told : MethodName := ⟨RX12, "told", "(I)I"⟩
def RJ6 : String := "java/lang/Integer"
abbrev cJ6_bitCount_0f7a4 : ByteArray := prog_15_method_49_code
def yJ6_bitCount_0f7a4 : MethodName := ⟨RJ6, "bitCount", "(I)I"⟩
def RJ13 : String := "java/lang/Long"
abbrev cJ13_bitCount_95d88 : ByteArray := prog_16_method_50_code
def yJ13_bitCount_95d88 : MethodName := ⟨RJ13, "bitCount", "(J)I"⟩
def RJ9 : String := "java/lang/Math"
abbrev cJ9_max_7cf53 : ByteArray := prog_17_method_65_code
def yJ9_max_7cf53 : MethodName := ⟨RJ9, "max", "(II)I"⟩
abbrev cJ9_min_7cf53 : ByteArray := prog_17_method_69_code
def yJ9_min_7cf53 : MethodName := ⟨RJ9, "min", "(II)I"⟩
def RJ10 : String := "java/lang/System"
def RL : String := "WorkedBackLaw"
abbrev cL_law : ByteArray := code
def yL_law : MethodName := ⟨RL, "law", "([I)Z"⟩
abbrev vwCl : List vw_C := [(RX0, TX0, 8), (RX1, TX1, 10), (RX2, TX2, 10), (RX3, TX3, 9), (RX4, TX4, 5), (RX5, TX5, 1), (RX6, TX6, 4), (RX7, TX7, 7), (RX8, TX8, 10), (RX9, TX9, 7), (RX10, TX10, 13), (RX11, TX11, 8), (RX12, TX12, 26)]
end
section
/-! ===== the pure machine: places instead of addresses, one world, one judgement 'wb_V' over the kit's W ===== -/
/-- an instruction: its place, what it is, the next place, the place that it may jump to -/
abbrev wb_O : Type := Nat × Instr × Nat × Nat
/-- a method: name, bytes, locals, what it returns, its room, its instructions -/
abbrev wb_MD : Type := MethodName × ByteArray × Nat × Option FieldType × Room × List wb_O
abbrev wb_nm (M : wb_MD) : MethodName := M.1
abbrev wb_by (M : wb_MD) : ByteArray := M.2.1
abbrev wb_ml (M : wb_MD) : Nat := M.2.2.1
abbrev wb_rt (M : wb_MD) : Option FieldType := M.2.2.2.1
abbrev wb_rm (M : wb_MD) : Room := M.2.2.2.2.1
abbrev wb_op (M : wb_MD) : List wb_O := M.2.2.2.2.2
def wb_GW : List Cond := lw_tbl.filter goodWord
def wb_isN : Cond → Bool
  | .fieldLinkNest .. => true
  | .methodLinkNest .. => true
  | _ => false
def wb_NW : List Cond := tables_1.filter wb_isN
def wb_len : Instr → Nat
  | .bipush _ => 2
  | .iload _ => 2
  | .lload _ => 2
  | .aload _ => 2
  | .istore _ => 2
  | .lstore _ => 2
  | .astore _ => 2
  | .ldc _ => 2
  | .newarray _ => 2
  | .sipush _ => 3
  | .iinc _ _ => 3
  | .if_icmp _ _ => 3
  | .ifCond _ _ => 3
  | .goto _ => 3
  | .getfield _ => 3
  | .putfield _ => 3
  | .getstatic _ => 3
  | .invokevirtual _ => 3
  | .invokespecial _ => 3
  | .invokestatic _ => 3
  | .new _ => 3
  | .anewarray _ => 3
  | .ldc2_w _ => 3
  | .ldc_w _ => 3
  | _ => 1
def wb_sh (q : wb_O) : Bool := match q with
  | (pc, .if_icmp _ o, nx, tg) => decide (nx = pc + 3) && decide ((pc : Int) + o = (tg : Int))
  | (pc, .ifCond _ o, nx, tg) => decide (nx = pc + 3) && decide ((pc : Int) + o = (tg : Int))
  | (pc, .goto o, nx, tg) => decide (nx = pc + 3) && decide ((pc : Int) + o = (tg : Int))
  | (_, .tableswitch .., _, _) => true
  | (pc, i, nx, _) => decide (nx = pc + wb_len i)
def wb_OK (M : wb_MD) : Prop := (∀ q ∈ wb_op M, decode (wb_by M) q.1 = .ok (q.2.1, q.2.2.1 - q.1)) ∧ (∀ q ∈ wb_op M, wb_sh q = true) ∧ Cond.code (wb_nm M) (wb_by M) (wb_ml M) (wb_rt M) ∈ wb_GW ∧ Cond.initialized (wb_nm M).cls ∈ wb_GW ∧ plainName (wb_nm M).cls = true ∧ (wb_nm M).cls ≠ "java/lang/invoke/MethodHandle" ∧ (wb_nm M).cls ≠ "java/lang/invoke/VarHandle"
/-- launch, base of the heap, addresses of what lies below it, classes, array classes, the script's length and ints -/
abbrev wb_G : Type := Launch × Nat × (Nat → Nat) × va_G × (Nat → ClassId) × Nat × (Nat → Int32)
abbrev wb_gl (G : wb_G) : Launch := G.1
abbrev wb_gb (G : wb_G) : Nat := G.2.1
abbrev wb_gx (G : wb_G) : Nat → Nat := G.2.2.1
abbrev wb_gD (G : wb_G) : va_G := G.2.2.2.1
abbrev wb_gc (G : wb_G) : Nat → ClassId := G.2.2.2.2.1
abbrev wb_gL (G : wb_G) : Nat := G.2.2.2.2.2.1
abbrev wb_gs (G : wb_G) : Nat → Int32 := G.2.2.2.2.2.2
/-- the script is place 0, STOCK_MOST place 1, CELL_MOST place 2 -/
def wb_sm : Nat → Int32 := fun j => if j = 2 then 199 else if j = 3 then 5 else 99
def wb_cm : Nat → Int32 := fun j => if j = 3 then 5 else if j = 4 then 20 else if j = 5 then 20 else 99
def wb_xL (G : wb_G) (k : Nat) : Nat := if k = 0 then wb_gL G else if k = 1 then 4 else 9
def wb_xF (G : wb_G) (k : Nat) : Nat → Int32 := if k = 0 then wb_gs G else if k = 1 then wb_sm else wb_cm
def wb_ad (G : wb_G) (k : Nat) : Nat := if k < 3 then wb_gx G k else wb_gb G + (k - 3)
def wb_tr (G : wb_G) (v : Value) : Value := match v with
  | .ref k => .ref (wb_ad G k)
  | v => v
def wb_tA (G : wb_G) (a : vp_A) : vp_A := match a with
  | (n, .inr (.inr (.inr (.inr g)))) => (n, .inr (.inr (.inr (.inr (fun j => (g j).map (wb_ad G))))))
  | a => a
def wb_tE (G : wb_G) (e : va_E) : va_E := match e with
  | .inl x => .inl (wb_gc G x.1, wb_tA G x.2)
  | .inr o => .inr (o.1, o.2.map (wb_tr G))
def wb_tL (G : wb_G) (l : List (Nat × Value)) : List (Nat × Value) := l.map (fun q => (q.1, wb_tr G q.2))
def wb_ty (G : wb_G) : List (ClassId × FieldType) := [(wb_gc G 0, .int), (wb_gc G 1, .long), (wb_gc G 2, .boolean), (wb_gc G 3, .byte), (wb_gc G 4, .object RX0), (wb_gc G 5, .object RX2)]
abbrev wb_W : Type := Nat → va_E
/-- what lies at a place that isn't made -/
def wb_no : va_E := .inr (99, [])
/-- an array of ints below the base: it has these ints at least, and that length as the machine tells it -/
def wb_Xw (b L : Nat) (xs : Nat → Int32) (U : State) (H : Heap) : Prop := ∃ scr : Cell, H[b]? = some scr ∧ U.isArrayOf scr .int ∧ scr.vm ≠ .unknown ∧ L ≤ scr.slots.size ∧ scr.slots.size.toInt32 = Int32.ofNat L ∧ ∀ j : Nat, j < L → scr.slots[j]? = some (.int (xs j))
theorem wb_Xw.kept {b L : Nat} {xs : Nat → Int32} {U : State} {H H1 : Heap} (h : wb_Xw b L xs U H) (hq : H1[b]? = H[b]?) : wb_Xw b L xs U H1 := by
  obtain ⟨scr, h1, h2⟩ := h
  exact ⟨scr, hq.trans h1, h2⟩
theorem wb_Xw.moved {b L : Nat} {xs : Nat → Int32} {u U : State} {H : Heap} (hvm : u.vm.Alike U.vm) (h : wb_Xw b L xs u H) : wb_Xw b L xs U H := by
  obtain ⟨scr, h1, h2, h3⟩ := h
  exact ⟨scr, h1, State.isArrayOf_alike hvm h2, h3⟩
def wb_KS (G : wb_G) (s : State) : Prop := va_K (wb_gD G) vwCl (wb_ty G) s ∧ (∀ w ∈ wb_NW, va_Nw w s) ∧ va_AO RX0 s ∧ va_AO RX2 s
def wb_at (G : wb_G) (k : Nat) (e : va_E) (H : Heap) : Prop := va_at (wb_gD G) vwCl (wb_ad G k, wb_tE G e) H
def wb_R (G : wb_G) (s : State) (H : Heap) (N : Nat) (w : wb_W) : Prop :=
  3 ≤ N ∧ H.size = wb_gb G + (N - 3) ∧ (∀ k, 3 ≤ k → k < N → wb_at G k (w k) H) ∧ (∀ k, k < 3 → wb_gx G k < wb_gb G ∧ wb_Xw (wb_gx G k) (wb_xL G k) (wb_xF G k) s H) ∧
  va_Z RX11 "STOCK_MOST" "[I" (.ref (wb_gx G 1)) (fun q => wb_gb G ≤ q) s H ∧ va_Z RX11 "CELL_MOST" "[I" (.ref (wb_gx G 2)) (fun q => wb_gb G ≤ q) s H ∧ ∀ k, (k < 3 ∨ N ≤ k) → w k = wb_no
def wb_C (G : wb_G) (M : wb_MD) (p : Program) (s : State) (m : MethodId) (args : Array Value) (meth : Method) (c : Code) : Prop :=
  p.tables.exec = Jvm.exec ∧ c.code = wb_by M ∧ c.maxLocals = wb_ml M ∧ meth.sig.returnType = wb_rt M ∧ meth.locks = false ∧ meth.name = (wb_nm M).name ∧ s.vm.findClass (wb_nm M).cls = some m.cls ∧ (∀ w ∈ wb_GW, w.before args s = true) ∧ wb_KS G s ∧ wb_OK M
/-- a return instruction stands there, for that answer -/
def wb_ret (M : wb_MD) (pc : Nat) (v : Option Value) : Prop :=
  (decode (wb_by M) pc = .ok (.ireturn, 1) ∧ ∃ (x : Int32) (ty : FieldType), v = some (.int x) ∧ wb_rt M = some ty ∧ narrow ty (.int x) = .int x) ∨
  (decode (wb_by M) pc = .ok (.lreturn, 1) ∧ ∃ x : Int64, v = some (.long x) ∧ wb_rt M = some .long) ∨
  (decode (wb_by M) pc = .ok (.areturn, 1) ∧ ∃ (k : Nat) (n : String), v = some (.ref k) ∧ wb_rt M = some (.object n)) ∨
  (decode (wb_by M) pc = .ok (.return_, 1) ∧ v = none ∧ wb_rt M = none)
/-- from the method's place pc, with these locals, this stack, this world, the machine comes to its return, with an answer and a world for which Q holds -/
def wb_V (G : wb_G) (M : wb_MD) (pc : Nat) (l : List (Nat × Value)) (st : List Value) (N : Nat) (w : wb_W) (cc cs : Nat) (Q : Option Value → Nat → wb_W → Prop) : Prop :=
  ∀ (p : Program) (e : Env) (s : State) (m : MethodId) (args : Array Value) (below : List Frame) (meth : Method) (c : Code) (H : Heap) (locs : List Loc) (ls : Array Slot) (Qe : State → Prop),
    wb_C G M p s m args meth c → wb_R G s H N w → lv_has ls (wb_ml M) (wb_tL G l) → (∀ q ∈ locs, wb_gb G ≤ q.base) →
    (∀ (v : Option Value) (N' : Nat) (w' : wb_W) (H' : Heap) (locs' : List Loc) (cc' cs' pc' : Nat) (ls' : Array Slot), Q v N' w' → wb_R G s H' N' w' → (∀ q ∈ locs', wb_gb G ≤ q.base) → cc' ≤ (wb_rm M).cells → cs' ≤ (wb_rm M).slots → wb_ret M pc' v → W p (wb_gl G) e (wb_rm M) s m args below meth c H' locs' cc' cs' Qe (F0 m pc' ls' (v.toList.map (wb_tr G)))) →
    W p (wb_gl G) e (wb_rm M) s m args below meth c H locs cc cs Qe (F0 m pc ls (st.map (wb_tr G)))
/-- a call of a method with these arguments in this world -/
def wb_M (G : wb_G) (M : wb_MD) (As : List Value) (N : Nat) (w : wb_W) (Q : Option Value → Nat → wb_W → Prop) : Prop := wb_V G M 0 (lv_args 0 As) [] N w 0 0 Q
theorem wb_opn {M : wb_MD} (h : wb_OK M) {k pc nx tg : Nat} {i : Instr} (ho : (wb_op M)[k]? = some (pc, i, nx, tg)) : decode (wb_by M) pc = .ok (i, nx - pc) ∧ wb_sh (pc, i, nx, tg) = true := by
  have hm := List.mem_of_getElem? ho
  have h1 := h.1 (pc, i, nx, tg) hm
  have h2 := h.2.1 (pc, i, nx, tg) hm
  exact ⟨h1, h2⟩
theorem wb_R.set {G : wb_G} {s : State} {H H1 : Heap} {N k : Nat} {w : wb_W} {e : va_E} (h : wb_R G s H N w) (h3 : 3 ≤ k) (hk : k < N) (hz : H1.size = H.size) (ho : ∀ q, q ≠ wb_ad G k → H1[q]? = H[q]?) (ha : wb_at G k e H1) : wb_R G s H1 N (va_up w k e) := by
  obtain ⟨r1, r2, r3, r4, r5, r6, r7⟩ := h
  have hadk : wb_ad G k = wb_gb G + (k - 3) := by unfold wb_ad; rw [if_neg (by omega)]
  refine ⟨r1, by rw [hz]; exact r2, fun j h1 h2 => ?_, fun j hj => ⟨(r4 j hj).1, (r4 j hj).2.kept (ho _ ?_)⟩, r5.kept fun a _ hq => ho a ?_, r6.kept fun a _ hq => ho a ?_, fun j hj => ?_⟩
  · by_cases hjk : j = k
    · subst hjk
      simpa [va_up] using ha
    · have hne : wb_ad G j ≠ wb_ad G k := by
        rw [hadk]; unfold wb_ad; rw [if_neg (by omega)]; omega
      have := r3 j h1 h2
      unfold wb_at at this ⊢
      rw [show va_up w k e j = w j by simp [va_up, hjk]]
      exact va_at.kept this (ho _ hne)
  · rw [hadk]; have := (r4 j hj).1; omega
  · rw [hadk]; intro hh; apply hq; omega
  · rw [hadk]; intro hh; apply hq; omega
  · rw [show va_up w k e j = w j by simp [va_up, show j ≠ k by omega]]
    exact r7 j hj
theorem wb_R.push {G : wb_G} {s : State} {H H1 : Heap} {N : Nat} {w : wb_W} {e : va_E} (h : wb_R G s H N w) (hz : H1.size = H.size + 1) (ho : ∀ q, q < H.size → H1[q]? = H[q]?) (ha : va_at (wb_gD G) vwCl (H.size, wb_tE G e) H1) : wb_R G s H1 (N + 1) (va_up w N e) := by
  obtain ⟨r1, r2, r3, r4, r5, r6, r7⟩ := h
  have hadN : wb_ad G N = H.size := by unfold wb_ad; rw [if_neg (by omega), r2]
  refine ⟨by omega, by rw [hz, r2]; omega, fun j h1 h2 => ?_, fun j hj => ⟨(r4 j hj).1, (r4 j hj).2.kept (ho _ ?_)⟩, r5.kept fun a hlt hq => ho a hlt, r6.kept fun a hlt hq => ho a hlt, fun j hj => ?_⟩
  · by_cases hjk : j = N
    · subst hjk
      unfold wb_at
      rw [hadN]
      simpa [va_up] using ha
    · have := r3 j h1 (by omega)
      unfold wb_at at this ⊢
      rw [show va_up w N e j = w j by simp [va_up, hjk]]
      exact va_at.kept this (ho _ (va_at.lt this))
  · have := (r4 j hj).1; omega
  · rw [show va_up w N e j = w j by simp [va_up, show j ≠ N by omega]]
    exact r7 j (by omega)
theorem wb_R.moved {G : wb_G} {s U : State} {H : Heap} {N : Nat} {w : wb_W} (hvm : s.vm.Alike U.vm) (h : wb_R G s H N w) : wb_R G U H N w :=
  ⟨h.1, h.2.1, h.2.2.1, fun k hk => ⟨(h.2.2.2.1 k hk).1, (h.2.2.2.1 k hk).2.moved hvm⟩, h.2.2.2.2.1.moved hvm, h.2.2.2.2.2.1.moved hvm, h.2.2.2.2.2.2⟩
theorem wb_R.rng {G : wb_G} {s : State} {H : Heap} {N : Nat} {w : wb_W} (h : wb_R G s H N w) {k : Nat} (hk : w k ≠ wb_no) : 3 ≤ k ∧ k < N := by
  by_cases h1 : k < 3 ∨ N ≤ k
  · exact absurd (h.2.2.2.2.2.2 k h1) hk
  · omega
theorem wb_nest {w : Cond} (hw : w ∈ wb_NW) {s U : State} (hW : s.WarmedH U.vm) (h : va_Nw w s) : va_Nw w U := by
  have h2 := (List.mem_filter.mp hw).2
  cases w <;> first | exact absurd h2 (by decide) | exact va_Nw.warmF hW h | exact va_Nw.warmM hW h | (simp [wb_isN] at h2; done)
theorem wb_KS.moved {G : wb_G} {s U : State} (hW : s.WarmedH U.vm) (h : wb_KS G s) : wb_KS G U :=
  ⟨va_K.moved hW.alike h.1, fun w hw => wb_nest hw hW (h.2.1 w hw), va_AO.moved hW.alike h.2.2.1, va_AO.moved hW.alike h.2.2.2⟩
end
section
/-! ===== one row an instruction ===== -/
def wb_i (z : Int) : Int32 := Int32.ofInt z
def wb_get : List (Nat × Value) → Nat → Option Value
  | [], _ => none
  | q :: r, i => cond (Nat.beq q.1 i) (some q.2) (wb_get r i)
def wb_put (l : List (Nat × Value)) (i : Nat) (v : Value) : List (Nat × Value) := (i, v) :: l.filter (fun q => !(Nat.beq q.1 i) && !(Nat.beq (q.1 + 1) i && Nat.beq q.2.category 2))
def wb_put2 (l : List (Nat × Value)) (i : Nat) (v : Value) : List (Nat × Value) := (i, v) :: l.filter (fun q => !(Nat.beq q.1 i) && (!(Nat.beq q.1 (i + 1)) && !(Nat.beq (q.1 + 1) i && Nat.beq q.2.category 2)))
def wb_loc (l : List (Nat × Value)) : List (Nat × Value) → Prop
  | [] => True
  | q :: r => wb_get l q.1 = some q.2 ∧ wb_loc l r
theorem wb_get_mem {l : List (Nat × Value)} {i : Nat} {v : Value} (h : wb_get l i = some v) : (i, v) ∈ l := by
  induction l with
  | nil => cases h
  | cons q r ih =>
    unfold wb_get at h
    cases hb : Nat.beq q.1 i with
    | true =>
      rw [hb] at h
      have := Nat.eq_of_beq_eq_true hb
      subst this
      cases h
      exact List.mem_cons_self
    | false =>
      rw [hb] at h
      exact List.mem_cons_of_mem _ (ih h)
theorem wb_beq (a b : Nat) : (a == b) = Nat.beq a b := by
  cases h : Nat.beq a b with
  | true => exact (beq_iff_eq).mpr (Nat.eq_of_beq_eq_true h)
  | false => exact beq_eq_false_iff_ne.mpr (Nat.ne_of_beq_eq_false h)
theorem wb_and {a b : Bool} (h : (a && b) = true) : a = true ∧ b = true := by cases a <;> cases b <;> simp_all
theorem wb_cat (G : wb_G) (v : Value) : (wb_tr G v).category = v.category := by cases v <;> rfl
theorem wb_at_l {G : wb_G} {ls : Array Slot} {nL : Nat} {l : List (Nat × Value)} (h : lv_has ls nL (wb_tL G l)) {i : Nat} {v : Value} (hg : wb_get l i = some v) : ls[i]? = some (.val (wb_tr G v)) :=
  h.2.2 (i, wb_tr G v) (List.mem_map.mpr ⟨(i, v), wb_get_mem hg, rfl⟩)
theorem wb_pos {G : wb_G} {l : List (Nat × Value)} {i : Nat} {v : Value} (hg : wb_get l i = some v) : ∃ k : Nat, (wb_tL G l)[k]? = some (i, wb_tr G v) :=
  List.getElem?_of_mem (List.mem_map.mpr ⟨(i, v), wb_get_mem hg, rfl⟩)
theorem wb_tL_put {G : wb_G} {l : List (Nat × Value)} {i : Nat} {v : Value} : (i, wb_tr G v) :: (wb_tL G l).filter (fun q => !(q.1 == i) && !(q.1 + 1 == i && q.2.category == 2)) = wb_tL G (wb_put l i v) := by
  unfold wb_tL wb_put
  rw [List.map_cons, List.filter_map]
  congr 2
  apply List.filter_congr
  intro q _
  simp only [Function.comp, wb_cat, wb_beq]
theorem wb_tL_put2 {G : wb_G} {l : List (Nat × Value)} {i : Nat} {v : Value} : (i, wb_tr G v) :: (wb_tL G l).filter (fun q => !(q.1 == i) && (!(q.1 == i + 1) && !(q.1 + 1 == i && q.2.category == 2))) = wb_tL G (wb_put2 l i v) := by
  unfold wb_tL wb_put2
  rw [List.map_cons, List.filter_map]
  congr 2
  apply List.filter_congr
  intro q _
  simp only [Function.comp, wb_cat, wb_beq]
theorem wb_lt {a b : Nat} (h : Nat.blt a b = true) : a < b := Nat.le_of_ble_eq_true h
/-! numbers -/
theorem wb_i_toInt {z : Int} (h : -2147483648 ≤ z ∧ z ≤ 2147483647) : (wb_i z).toInt = z := by
  unfold wb_i; rw [Int32.toInt_ofInt_of_le (by omega) (by omega)]
theorem wb_i_of (x : Int32) : x = wb_i x.toInt := by unfold wb_i; rw [Int32.ofInt_toInt]
theorem wb_i_rg (x : Int32) : -2147483648 ≤ x.toInt ∧ x.toInt ≤ 2147483647 := by
  have h1 := Int32.le_toInt x
  have h2 := Int32.toInt_lt x
  omega
theorem wb_i_add (a b : Int) : wb_i a + wb_i b = wb_i (a + b) := by unfold wb_i; rw [Int32.ofInt_add]
theorem wb_i_mul (a b : Int) : wb_i a * wb_i b = wb_i (a * b) := by unfold wb_i; rw [Int32.ofInt_mul]
theorem wb_i_neg (a : Int) : -wb_i a = wb_i (-a) := by unfold wb_i; rw [Int32.ofInt_neg]
theorem wb_i_sub (a b : Int) : wb_i a - wb_i b = wb_i (a - b) := by unfold wb_i; rw [Int32.ofInt_sub]
theorem wb_i_eq {a b : Int} (ha : -2147483648 ≤ a ∧ a ≤ 2147483647) (hb : -2147483648 ≤ b ∧ b ≤ 2147483647) : wb_i a = wb_i b ↔ a = b := by
  constructor
  · intro h; have := congrArg Int32.toInt h; rwa [wb_i_toInt ha, wb_i_toInt hb] at this
  · intro h; rw [h]
theorem wb_i_lt {a b : Int} (ha : -2147483648 ≤ a ∧ a ≤ 2147483647) (hb : -2147483648 ≤ b ∧ b ≤ 2147483647) : wb_i a < wb_i b ↔ a < b := by
  rw [Int32.lt_iff_toInt_lt, wb_i_toInt ha, wb_i_toInt hb]
theorem wb_i_le {a b : Int} (ha : -2147483648 ≤ a ∧ a ≤ 2147483647) (hb : -2147483648 ≤ b ∧ b ≤ 2147483647) : wb_i a ≤ wb_i b ↔ a ≤ b := by
  rw [Int32.le_iff_toInt_le, wb_i_toInt ha, wb_i_toInt hb]
theorem wb_i_nat (n : Nat) : wb_i (n : Int) = nI n := by unfold wb_i nI; rw [Int32.ofInt_eq_ofNat]
theorem wb_i_div {a b : Int} (ha : 0 ≤ a ∧ a ≤ 2147483647) (hb : 0 < b ∧ b ≤ 2147483647) : wb_i a / wb_i b = wb_i (a / b) := by
  obtain ⟨m, rfl⟩ := Int.eq_ofNat_of_zero_le ha.1
  obtain ⟨n, rfl⟩ := Int.eq_ofNat_of_zero_le (show 0 ≤ b by omega)
  rw [wb_i_nat, wb_i_nat, pk_div (by omega) (by omega) (by omega), ← wb_i_nat]
  rfl
theorem wb_i_rem {a b : Int} (ha : 0 ≤ a ∧ a ≤ 2147483647) (hb : 0 < b ∧ b ≤ 2147483647) : wb_i a - wb_i a / wb_i b * wb_i b = wb_i (a % b) := by
  obtain ⟨m, rfl⟩ := Int.eq_ofNat_of_zero_le ha.1
  obtain ⟨n, rfl⟩ := Int.eq_ofNat_of_zero_le (show 0 ≤ b by omega)
  rw [wb_i_nat, wb_i_nat, pk_rem (by omega) (by omega) (by omega), ← wb_i_nat]
  rfl
theorem wb_i_cl {a : Int} (h0 : 0 ≤ a) (h : a ≤ 2147483647) : ((wb_i a).toNatClampNeg : Int) = a := by
  show (((wb_i a).toInt.toNat : Nat) : Int) = a
  rw [wb_i_toInt (by omega)]; omega
theorem wb_i_in {a : Int} {n : Nat} (h0 : 0 ≤ a) (h : a < n) (hn : a ≤ 2147483647) : vp_in (wb_i a) n := by
  rw [vp_in_iff, wb_i_toInt (by omega)]; omega
theorem wb_i8 {n : Int} (h1 : -128 ≤ n) (h2 : n ≤ 127) : (Int8.ofInt n).toInt32 = wb_i n := by
  apply Int32.toInt_inj.mp
  rw [wb_i_toInt (by omega), Int8.toInt_toInt32, Int8.toInt_ofInt_of_le (by omega) (by omega)]
theorem wb_i16 {n : Int} (h1 : -32768 ≤ n) (h2 : n ≤ 32767) : (Int16.ofInt n).toInt32 = wb_i n := by
  apply Int32.toInt_inj.mp
  rw [wb_i_toInt (by omega), Int16.toInt_toInt32, Int16.toInt_ofInt_of_le (by omega) (by omega)]

section WBROWS
variable {G : wb_G} {M : wb_MD} {pc nx tg : Nat} {l : List (Nat × Value)} {st : List Value} {N : Nat} {w : wb_W} {cc cs : Nat} {Q : Option Value → Nat → wb_W → Prop}
theorem vi_iconst (k : Nat) {n : Int} (h : (wb_op M)[k]? = some (pc, .iconst n, nx, tg))  (kk : wb_V G M nx l (.int (wb_i n) :: st) N w cc cs Q) : wb_V G M pc l (st) N w cc cs Q := by
  intro p e s m args below meth c H locs ls Qe hC hR hl hf hq
  obtain ⟨hd, hs⟩ := wb_opn hC.2.2.2.2.2.2.2.2.2 h
  have hnx : nx = pc + 1 := of_decide_eq_true hs
  subst hnx
  rw [Nat.add_sub_cancel_left] at hd
  exact lv_iconst hC.1 hC.2.1 hd rfl (kk p e s m args below meth c H locs ls Qe hC hR hl hf hq)
theorem vi_bipush (k : Nat) {n : Int} (h : (wb_op M)[k]? = some (pc, .bipush n, nx, tg)) (h1 : -128 ≤ n ∧ n ≤ 127) (kk : wb_V G M nx l (.int (wb_i n) :: st) N w cc cs Q) : wb_V G M pc l (st) N w cc cs Q := by
  intro p e s m args below meth c H locs ls Qe hC hR hl hf hq
  obtain ⟨hd, hs⟩ := wb_opn hC.2.2.2.2.2.2.2.2.2 h
  have hnx : nx = pc + 2 := of_decide_eq_true hs
  subst hnx
  rw [Nat.add_sub_cancel_left] at hd
  exact lv_bipush hC.1 hC.2.1 hd (wb_i8 h1.1 h1.2) (kk p e s m args below meth c H locs ls Qe hC hR hl hf hq)
theorem vi_sipush (k : Nat) {n : Int} (h : (wb_op M)[k]? = some (pc, .sipush n, nx, tg)) (h1 : -32768 ≤ n ∧ n ≤ 32767) (kk : wb_V G M nx l (.int (wb_i n) :: st) N w cc cs Q) : wb_V G M pc l (st) N w cc cs Q := by
  intro p e s m args below meth c H locs ls Qe hC hR hl hf hq
  obtain ⟨hd, hs⟩ := wb_opn hC.2.2.2.2.2.2.2.2.2 h
  have hnx : nx = pc + 3 := of_decide_eq_true hs
  subst hnx
  rw [Nat.add_sub_cancel_left] at hd
  exact lv_sipush hC.1 hC.2.1 hd (wb_i16 h1.1 h1.2) (kk p e s m args below meth c H locs ls Qe hC hR hl hf hq)
theorem vi_lconst (k : Nat) {n : Fin 2} (h : (wb_op M)[k]? = some (pc, .lconst n, nx, tg))  (kk : wb_V G M nx l (.long (Int64.ofNat n) :: st) N w cc cs Q) : wb_V G M pc l (st) N w cc cs Q := by
  intro p e s m args below meth c H locs ls Qe hC hR hl hf hq
  obtain ⟨hd, hs⟩ := wb_opn hC.2.2.2.2.2.2.2.2.2 h
  have hnx : nx = pc + 1 := of_decide_eq_true hs
  subst hnx
  rw [Nat.add_sub_cancel_left] at hd
  exact lv_lconst hC.1 hC.2.1 hd rfl (kk p e s m args below meth c H locs ls Qe hC hR hl hf hq)
theorem vi_ldc (k : Nat) {n : Nat} {z : Int} (h : (wb_op M)[k]? = some (pc, .ldc n, nx, tg)) (h1 : Cond.constant (wb_nm M).cls n (wb_i z) ∈ wb_GW) (kk : wb_V G M nx l (.int (wb_i z) :: st) N w cc cs Q) : wb_V G M pc l (st) N w cc cs Q := by
  intro p e s m args below meth c H locs ls Qe hC hR hl hf hq
  obtain ⟨hd, hs⟩ := wb_opn hC.2.2.2.2.2.2.2.2.2 h
  have hnx : nx = pc + 2 := of_decide_eq_true hs
  subst hnx
  rw [Nat.add_sub_cancel_left] at hd
  exact lv_ldc hC.1 hC.2.1 hC.2.2.2.2.2.2.1 (hC.2.2.2.2.2.2.2.1 _ h1) hd (kk p e s m args below meth c H locs ls Qe hC hR hl hf hq)
theorem vi_ldcw (k : Nat) {n : Nat} {z : Int32} (h : (wb_op M)[k]? = some (pc, .ldc_w n, nx, tg)) (h1 : Cond.constant (wb_nm M).cls n z ∈ wb_GW) (kk : wb_V G M nx l (.int z :: st) N w cc cs Q) : wb_V G M pc l (st) N w cc cs Q := by
  intro p e s m args below meth c H locs ls Qe hC hR hl hf hq
  obtain ⟨hd, hs⟩ := wb_opn hC.2.2.2.2.2.2.2.2.2 h
  have hnx : nx = pc + 3 := of_decide_eq_true hs
  subst hnx
  rw [Nat.add_sub_cancel_left] at hd
  exact lv_ldcw hC.1 hC.2.1 hC.2.2.2.2.2.2.1 (hC.2.2.2.2.2.2.2.1 _ h1) hd (kk p e s m args below meth c H locs ls Qe hC hR hl hf hq)
theorem vi_ldc2 (k : Nat) {n : Nat} {z : Int64} (h : (wb_op M)[k]? = some (pc, .ldc2_w n, nx, tg)) (h1 : Cond.constantLong (wb_nm M).cls n z ∈ wb_GW) (kk : wb_V G M nx l (.long z :: st) N w cc cs Q) : wb_V G M pc l (st) N w cc cs Q := by
  intro p e s m args below meth c H locs ls Qe hC hR hl hf hq
  obtain ⟨hd, hs⟩ := wb_opn hC.2.2.2.2.2.2.2.2.2 h
  have hnx : nx = pc + 3 := of_decide_eq_true hs
  subst hnx
  rw [Nat.add_sub_cancel_left] at hd
  exact lv_ldc2 hC.1 hC.2.1 hC.2.2.2.2.2.2.1 (hC.2.2.2.2.2.2.2.1 _ h1) hd (kk p e s m args below meth c H locs ls Qe hC hR hl hf hq)
theorem vi_iload_n (k : Nat) {i : Fin 4} {x : Int32} (h : (wb_op M)[k]? = some (pc, .iload_n i, nx, tg)) (hg : wb_get l i.val = some (.int x)) (kk : wb_V G M nx l (.int x :: st) N w cc cs Q) : wb_V G M pc l (st) N w cc cs Q := by
  intro p e s m args below meth c H locs ls Qe hC hR hl hf hq
  obtain ⟨hd, hs⟩ := wb_opn hC.2.2.2.2.2.2.2.2.2 h
  have hnx : nx = pc + 1 := of_decide_eq_true hs
  subst hnx
  rw [Nat.add_sub_cancel_left] at hd
  exact lv_iload_n hC.1 hC.2.1 hd rfl (wb_at_l hl hg) (kk p e s m args below meth c H locs ls Qe hC hR hl hf hq)
theorem vi_iload (k : Nat) {i : Nat} {x : Int32} (h : (wb_op M)[k]? = some (pc, .iload i, nx, tg)) (hg : wb_get l i = some (.int x)) (kk : wb_V G M nx l (.int x :: st) N w cc cs Q) : wb_V G M pc l (st) N w cc cs Q := by
  intro p e s m args below meth c H locs ls Qe hC hR hl hf hq
  obtain ⟨hd, hs⟩ := wb_opn hC.2.2.2.2.2.2.2.2.2 h
  have hnx : nx = pc + 2 := of_decide_eq_true hs
  subst hnx
  rw [Nat.add_sub_cancel_left] at hd
  exact lv_iload hC.1 hC.2.1 hd (wb_at_l hl hg) (kk p e s m args below meth c H locs ls Qe hC hR hl hf hq)
theorem vi_istore_n (k : Nat) {i : Fin 4} {x : Int32} (h : (wb_op M)[k]? = some (pc, .istore_n i, nx, tg)) (hn : Nat.blt i.val (wb_ml M) = true) (kk : wb_V G M nx (wb_put l i.val (.int x)) st N w cc cs Q) : wb_V G M pc l (.int x :: st) N w cc cs Q := by
  intro p e s m args below meth c H locs ls Qe hC hR hl hf hq
  obtain ⟨hd, hs⟩ := wb_opn hC.2.2.2.2.2.2.2.2.2 h
  have hnx : nx = pc + 1 := of_decide_eq_true hs
  subst hnx
  rw [Nat.add_sub_cancel_left] at hd
  exact lv_istore_n hC.1 hC.2.1 hd rfl hl (wb_lt hn) (wb_tL_put (v := .int x)) (fun ls hl => (kk p e s m args below meth c H locs ls Qe hC hR hl hf hq))
theorem vi_istore (k : Nat) {i : Nat} {x : Int32} (h : (wb_op M)[k]? = some (pc, .istore i, nx, tg)) (hn : Nat.blt i (wb_ml M) = true) (kk : wb_V G M nx (wb_put l i (.int x)) st N w cc cs Q) : wb_V G M pc l (.int x :: st) N w cc cs Q := by
  intro p e s m args below meth c H locs ls Qe hC hR hl hf hq
  obtain ⟨hd, hs⟩ := wb_opn hC.2.2.2.2.2.2.2.2.2 h
  have hnx : nx = pc + 2 := of_decide_eq_true hs
  subst hnx
  rw [Nat.add_sub_cancel_left] at hd
  exact lv_istore hC.1 hC.2.1 hd hl (wb_lt hn) (wb_tL_put (v := .int x)) (fun ls hl => (kk p e s m args below meth c H locs ls Qe hC hR hl hf hq))
theorem vi_lload_n (k : Nat) {i : Fin 4} {x : Int64} (h : (wb_op M)[k]? = some (pc, .lload_n i, nx, tg)) (hg : wb_get l i.val = some (.long x)) (kk : wb_V G M nx l (.long x :: st) N w cc cs Q) : wb_V G M pc l (st) N w cc cs Q := by
  intro p e s m args below meth c H locs ls Qe hC hR hl hf hq
  obtain ⟨hd, hs⟩ := wb_opn hC.2.2.2.2.2.2.2.2.2 h
  have hnx : nx = pc + 1 := of_decide_eq_true hs
  subst hnx
  rw [Nat.add_sub_cancel_left] at hd
  exact lv_lload_n hC.1 hC.2.1 hd rfl (wb_at_l hl hg) (kk p e s m args below meth c H locs ls Qe hC hR hl hf hq)
theorem vi_lload (k : Nat) {i : Nat} {x : Int64} (h : (wb_op M)[k]? = some (pc, .lload i, nx, tg)) (hg : wb_get l i = some (.long x)) (kk : wb_V G M nx l (.long x :: st) N w cc cs Q) : wb_V G M pc l (st) N w cc cs Q := by
  intro p e s m args below meth c H locs ls Qe hC hR hl hf hq
  obtain ⟨hd, hs⟩ := wb_opn hC.2.2.2.2.2.2.2.2.2 h
  have hnx : nx = pc + 2 := of_decide_eq_true hs
  subst hnx
  rw [Nat.add_sub_cancel_left] at hd
  exact lv_lload hC.1 hC.2.1 hd (wb_at_l hl hg) (kk p e s m args below meth c H locs ls Qe hC hR hl hf hq)
theorem vi_lstore_n (k : Nat) {i : Fin 4} {x : Int64} (h : (wb_op M)[k]? = some (pc, .lstore_n i, nx, tg)) (hn : Nat.blt (i.val+1) (wb_ml M) = true) (kk : wb_V G M nx (wb_put2 l i.val (.long x)) st N w cc cs Q) : wb_V G M pc l (.long x :: st) N w cc cs Q := by
  intro p e s m args below meth c H locs ls Qe hC hR hl hf hq
  obtain ⟨hd, hs⟩ := wb_opn hC.2.2.2.2.2.2.2.2.2 h
  have hnx : nx = pc + 1 := of_decide_eq_true hs
  subst hnx
  rw [Nat.add_sub_cancel_left] at hd
  exact lv_lstore_n hC.1 hC.2.1 hd rfl hl (wb_lt hn) (wb_tL_put2 (v := .long x)) (fun ls hl => (kk p e s m args below meth c H locs ls Qe hC hR hl hf hq))
theorem vi_lstore (k : Nat) {i : Nat} {x : Int64} (h : (wb_op M)[k]? = some (pc, .lstore i, nx, tg)) (hn : Nat.blt (i+1) (wb_ml M) = true) (kk : wb_V G M nx (wb_put2 l i (.long x)) st N w cc cs Q) : wb_V G M pc l (.long x :: st) N w cc cs Q := by
  intro p e s m args below meth c H locs ls Qe hC hR hl hf hq
  obtain ⟨hd, hs⟩ := wb_opn hC.2.2.2.2.2.2.2.2.2 h
  have hnx : nx = pc + 2 := of_decide_eq_true hs
  subst hnx
  rw [Nat.add_sub_cancel_left] at hd
  exact lv_lstore hC.1 hC.2.1 hd hl (wb_lt hn) (wb_tL_put2 (v := .long x)) (fun ls hl => (kk p e s m args below meth c H locs ls Qe hC hR hl hf hq))
theorem vi_aload_n (k : Nat) {i : Fin 4} {x : Nat} (h : (wb_op M)[k]? = some (pc, .aload_n i, nx, tg)) (hg : wb_get l i.val = some (.ref x)) (kk : wb_V G M nx l (.ref x :: st) N w cc cs Q) : wb_V G M pc l (st) N w cc cs Q := by
  intro p e s m args below meth c H locs ls Qe hC hR hl hf hq
  obtain ⟨hd, hs⟩ := wb_opn hC.2.2.2.2.2.2.2.2.2 h
  have hnx : nx = pc + 1 := of_decide_eq_true hs
  subst hnx
  rw [Nat.add_sub_cancel_left] at hd
  exact lv_aload_n hC.1 hC.2.1 hd rfl (wb_at_l hl hg) (kk p e s m args below meth c H locs ls Qe hC hR hl hf hq)
theorem vi_aload (k : Nat) {i : Nat} {x : Nat} (h : (wb_op M)[k]? = some (pc, .aload i, nx, tg)) (hg : wb_get l i = some (.ref x)) (kk : wb_V G M nx l (.ref x :: st) N w cc cs Q) : wb_V G M pc l (st) N w cc cs Q := by
  intro p e s m args below meth c H locs ls Qe hC hR hl hf hq
  obtain ⟨hd, hs⟩ := wb_opn hC.2.2.2.2.2.2.2.2.2 h
  have hnx : nx = pc + 2 := of_decide_eq_true hs
  subst hnx
  rw [Nat.add_sub_cancel_left] at hd
  exact lv_aload hC.1 hC.2.1 hd (wb_at_l hl hg) (kk p e s m args below meth c H locs ls Qe hC hR hl hf hq)
theorem vi_astore_n (k : Nat) {i : Fin 4} {x : Nat} (h : (wb_op M)[k]? = some (pc, .astore_n i, nx, tg)) (hn : Nat.blt i.val (wb_ml M) = true) (kk : wb_V G M nx (wb_put l i.val (.ref x)) st N w cc cs Q) : wb_V G M pc l (.ref x :: st) N w cc cs Q := by
  intro p e s m args below meth c H locs ls Qe hC hR hl hf hq
  obtain ⟨hd, hs⟩ := wb_opn hC.2.2.2.2.2.2.2.2.2 h
  have hnx : nx = pc + 1 := of_decide_eq_true hs
  subst hnx
  rw [Nat.add_sub_cancel_left] at hd
  exact lv_astore_n hC.1 hC.2.1 hd rfl hl (wb_lt hn) (wb_tL_put (v := .ref x)) (fun ls hl => (kk p e s m args below meth c H locs ls Qe hC hR hl hf hq))
theorem vi_astore (k : Nat) {i : Nat} {x : Nat} (h : (wb_op M)[k]? = some (pc, .astore i, nx, tg)) (hn : Nat.blt i (wb_ml M) = true) (kk : wb_V G M nx (wb_put l i (.ref x)) st N w cc cs Q) : wb_V G M pc l (.ref x :: st) N w cc cs Q := by
  intro p e s m args below meth c H locs ls Qe hC hR hl hf hq
  obtain ⟨hd, hs⟩ := wb_opn hC.2.2.2.2.2.2.2.2.2 h
  have hnx : nx = pc + 2 := of_decide_eq_true hs
  subst hnx
  rw [Nat.add_sub_cancel_left] at hd
  exact lv_astore hC.1 hC.2.1 hd hl (wb_lt hn) (wb_tL_put (v := .ref x)) (fun ls hl => (kk p e s m args below meth c H locs ls Qe hC hR hl hf hq))
theorem vi_iinc (k : Nat) {i : Nat} {n x : Int} (h : (wb_op M)[k]? = some (pc, .iinc i n, nx, tg)) (hg : wb_get l i = some (.int (wb_i x))) (hn : Nat.blt i (wb_ml M) = true) (kk : wb_V G M nx (wb_put l i (.int (wb_i (x + n)))) st N w cc cs Q) : wb_V G M pc l st N w cc cs Q := by
  intro p e s m args below meth c H locs ls Qe hC hR hl hf hq
  obtain ⟨hd, hs⟩ := wb_opn hC.2.2.2.2.2.2.2.2.2 h
  have hnx : nx = pc + 3 := of_decide_eq_true hs
  subst hnx
  rw [Nat.add_sub_cancel_left] at hd
  obtain ⟨j, hj⟩ := wb_pos (G := G) hg
  exact lv_iinc hC.1 hC.2.1 hd hl hj (wb_i_add x n) (wb_lt hn) (wb_tL_put (v := .int (wb_i (x + n)))) (fun ls hl => (kk p e s m args below meth c H locs ls Qe hC hR hl hf hq))
theorem vi_iadd (k : Nat) {x y : Int} (h : (wb_op M)[k]? = some (pc, .iadd, nx, tg))  (kk : wb_V G M nx l (.int (wb_i (x + y)) :: st) N w cc cs Q) : wb_V G M pc l (.int (wb_i y) :: .int (wb_i x) :: st) N w cc cs Q := by
  intro p e s m args below meth c H locs ls Qe hC hR hl hf hq
  obtain ⟨hd, hs⟩ := wb_opn hC.2.2.2.2.2.2.2.2.2 h
  have hnx : nx = pc + 1 := of_decide_eq_true hs
  subst hnx
  rw [Nat.add_sub_cancel_left] at hd
  have K := (kk p e s m args below meth c H locs ls Qe hC hR hl hf hq)
  rw [← wb_i_add x y] at K
  exact lv_iadd hC.1 hC.2.1 hd  K
theorem vi_isub (k : Nat) {x y : Int} (h : (wb_op M)[k]? = some (pc, .isub, nx, tg))  (kk : wb_V G M nx l (.int (wb_i (x - y)) :: st) N w cc cs Q) : wb_V G M pc l (.int (wb_i y) :: .int (wb_i x) :: st) N w cc cs Q := by
  intro p e s m args below meth c H locs ls Qe hC hR hl hf hq
  obtain ⟨hd, hs⟩ := wb_opn hC.2.2.2.2.2.2.2.2.2 h
  have hnx : nx = pc + 1 := of_decide_eq_true hs
  subst hnx
  rw [Nat.add_sub_cancel_left] at hd
  have K := (kk p e s m args below meth c H locs ls Qe hC hR hl hf hq)
  rw [← wb_i_sub x y] at K
  exact lv_isub hC.1 hC.2.1 hd  K
theorem vi_imul (k : Nat) {x y : Int} (h : (wb_op M)[k]? = some (pc, .imul, nx, tg))  (kk : wb_V G M nx l (.int (wb_i (x * y)) :: st) N w cc cs Q) : wb_V G M pc l (.int (wb_i y) :: .int (wb_i x) :: st) N w cc cs Q := by
  intro p e s m args below meth c H locs ls Qe hC hR hl hf hq
  obtain ⟨hd, hs⟩ := wb_opn hC.2.2.2.2.2.2.2.2.2 h
  have hnx : nx = pc + 1 := of_decide_eq_true hs
  subst hnx
  rw [Nat.add_sub_cancel_left] at hd
  have K := (kk p e s m args below meth c H locs ls Qe hC hR hl hf hq)
  rw [← wb_i_mul x y] at K
  exact lv_imul hC.1 hC.2.1 hd  K
theorem vi_idiv (k : Nat) {x y : Int} (h : (wb_op M)[k]? = some (pc, .idiv, nx, tg)) (hx : 0 ≤ x ∧ x ≤ 2147483647) (hy : 0 < y ∧ y ≤ 2147483647) (kk : wb_V G M nx l (.int (wb_i (x / y)) :: st) N w cc cs Q) : wb_V G M pc l (.int (wb_i y) :: .int (wb_i x) :: st) N w cc cs Q := by
  intro p e s m args below meth c H locs ls Qe hC hR hl hf hq
  obtain ⟨hd, hs⟩ := wb_opn hC.2.2.2.2.2.2.2.2.2 h
  have hnx : nx = pc + 1 := of_decide_eq_true hs
  subst hnx
  rw [Nat.add_sub_cancel_left] at hd
  have K := (kk p e s m args below meth c H locs ls Qe hC hR hl hf hq)
  rw [← wb_i_div hx hy] at K
  exact lv_idiv hC.1 hC.2.1 hd (fun q => absurd ((wb_i_eq (b := 0) (by omega) (by omega)).mp q) (by omega)) K
theorem vi_irem (k : Nat) {x y : Int} (h : (wb_op M)[k]? = some (pc, .irem, nx, tg)) (hx : 0 ≤ x ∧ x ≤ 2147483647) (hy : 0 < y ∧ y ≤ 2147483647) (kk : wb_V G M nx l (.int (wb_i (x % y)) :: st) N w cc cs Q) : wb_V G M pc l (.int (wb_i y) :: .int (wb_i x) :: st) N w cc cs Q := by
  intro p e s m args below meth c H locs ls Qe hC hR hl hf hq
  obtain ⟨hd, hs⟩ := wb_opn hC.2.2.2.2.2.2.2.2.2 h
  have hnx : nx = pc + 1 := of_decide_eq_true hs
  subst hnx
  rw [Nat.add_sub_cancel_left] at hd
  have K := (kk p e s m args below meth c H locs ls Qe hC hR hl hf hq)
  rw [← wb_i_rem hx hy] at K
  exact lv_irem hC.1 hC.2.1 hd (fun q => absurd ((wb_i_eq (b := 0) (by omega) (by omega)).mp q) (by omega)) K
theorem vi_ineg (k : Nat) {x : Int} (h : (wb_op M)[k]? = some (pc, .ineg, nx, tg))  (kk : wb_V G M nx l (.int (wb_i (-x)) :: st) N w cc cs Q) : wb_V G M pc l (.int (wb_i x) :: st) N w cc cs Q := by
  intro p e s m args below meth c H locs ls Qe hC hR hl hf hq
  obtain ⟨hd, hs⟩ := wb_opn hC.2.2.2.2.2.2.2.2.2 h
  have hnx : nx = pc + 1 := of_decide_eq_true hs
  subst hnx
  rw [Nat.add_sub_cancel_left] at hd
  exact lv_ineg hC.1 hC.2.1 hd (by rw [wb_i_neg]; exact (kk p e s m args below meth c H locs ls Qe hC hR hl hf hq))
theorem vi_iand (k : Nat) {x y : Int32} (h : (wb_op M)[k]? = some (pc, .iand, nx, tg))  (kk : wb_V G M nx l (.int (x &&& y) :: st) N w cc cs Q) : wb_V G M pc l (.int y :: .int x :: st) N w cc cs Q := by
  intro p e s m args below meth c H locs ls Qe hC hR hl hf hq
  obtain ⟨hd, hs⟩ := wb_opn hC.2.2.2.2.2.2.2.2.2 h
  have hnx : nx = pc + 1 := of_decide_eq_true hs
  subst hnx
  rw [Nat.add_sub_cancel_left] at hd
  exact lv_iand hC.1 hC.2.1 hd (kk p e s m args below meth c H locs ls Qe hC hR hl hf hq)
theorem vi_ior (k : Nat) {x y : Int32} (h : (wb_op M)[k]? = some (pc, .ior, nx, tg))  (kk : wb_V G M nx l (.int (x ||| y) :: st) N w cc cs Q) : wb_V G M pc l (.int y :: .int x :: st) N w cc cs Q := by
  intro p e s m args below meth c H locs ls Qe hC hR hl hf hq
  obtain ⟨hd, hs⟩ := wb_opn hC.2.2.2.2.2.2.2.2.2 h
  have hnx : nx = pc + 1 := of_decide_eq_true hs
  subst hnx
  rw [Nat.add_sub_cancel_left] at hd
  exact lv_ior hC.1 hC.2.1 hd (kk p e s m args below meth c H locs ls Qe hC hR hl hf hq)
theorem vi_ixor (k : Nat) {x y : Int32} (h : (wb_op M)[k]? = some (pc, .ixor, nx, tg))  (kk : wb_V G M nx l (.int (x ^^^ y) :: st) N w cc cs Q) : wb_V G M pc l (.int y :: .int x :: st) N w cc cs Q := by
  intro p e s m args below meth c H locs ls Qe hC hR hl hf hq
  obtain ⟨hd, hs⟩ := wb_opn hC.2.2.2.2.2.2.2.2.2 h
  have hnx : nx = pc + 1 := of_decide_eq_true hs
  subst hnx
  rw [Nat.add_sub_cancel_left] at hd
  exact lv_ixor hC.1 hC.2.1 hd (kk p e s m args below meth c H locs ls Qe hC hR hl hf hq)
theorem vi_ishl (k : Nat) {x y : Int32} (h : (wb_op M)[k]? = some (pc, .ishl, nx, tg))  (kk : wb_V G M nx l (.int (x <<< (y &&& 31)) :: st) N w cc cs Q) : wb_V G M pc l (.int y :: .int x :: st) N w cc cs Q := by
  intro p e s m args below meth c H locs ls Qe hC hR hl hf hq
  obtain ⟨hd, hs⟩ := wb_opn hC.2.2.2.2.2.2.2.2.2 h
  have hnx : nx = pc + 1 := of_decide_eq_true hs
  subst hnx
  rw [Nat.add_sub_cancel_left] at hd
  exact lv_ishl hC.1 hC.2.1 hd (kk p e s m args below meth c H locs ls Qe hC hR hl hf hq)
theorem vi_ishr (k : Nat) {x y : Int32} (h : (wb_op M)[k]? = some (pc, .ishr, nx, tg))  (kk : wb_V G M nx l (.int (x >>> (y &&& 31)) :: st) N w cc cs Q) : wb_V G M pc l (.int y :: .int x :: st) N w cc cs Q := by
  intro p e s m args below meth c H locs ls Qe hC hR hl hf hq
  obtain ⟨hd, hs⟩ := wb_opn hC.2.2.2.2.2.2.2.2.2 h
  have hnx : nx = pc + 1 := of_decide_eq_true hs
  subst hnx
  rw [Nat.add_sub_cancel_left] at hd
  exact lv_ishr hC.1 hC.2.1 hd (kk p e s m args below meth c H locs ls Qe hC hR hl hf hq)
theorem vi_iushr (k : Nat) {x y : Int32} (h : (wb_op M)[k]? = some (pc, .iushr, nx, tg))  (kk : wb_V G M nx l (.int ((x.toUInt32 >>> (y.toUInt32 &&& Int32.toUInt32 31)).toInt32) :: st) N w cc cs Q) : wb_V G M pc l (.int y :: .int x :: st) N w cc cs Q := by
  intro p e s m args below meth c H locs ls Qe hC hR hl hf hq
  obtain ⟨hd, hs⟩ := wb_opn hC.2.2.2.2.2.2.2.2.2 h
  have hnx : nx = pc + 1 := of_decide_eq_true hs
  subst hnx
  rw [Nat.add_sub_cancel_left] at hd
  exact lv_iushr hC.1 hC.2.1 hd rfl (kk p e s m args below meth c H locs ls Qe hC hR hl hf hq)
theorem vi_iadd32 (k : Nat) {x y : Int32} (h : (wb_op M)[k]? = some (pc, .iadd, nx, tg))  (kk : wb_V G M nx l (.int (x + y) :: st) N w cc cs Q) : wb_V G M pc l (.int y :: .int x :: st) N w cc cs Q := by
  intro p e s m args below meth c H locs ls Qe hC hR hl hf hq
  obtain ⟨hd, hs⟩ := wb_opn hC.2.2.2.2.2.2.2.2.2 h
  have hnx : nx = pc + 1 := of_decide_eq_true hs
  subst hnx
  rw [Nat.add_sub_cancel_left] at hd
  exact lv_iadd hC.1 hC.2.1 hd (kk p e s m args below meth c H locs ls Qe hC hR hl hf hq)
theorem vi_isub32 (k : Nat) {x y : Int32} (h : (wb_op M)[k]? = some (pc, .isub, nx, tg))  (kk : wb_V G M nx l (.int (x - y) :: st) N w cc cs Q) : wb_V G M pc l (.int y :: .int x :: st) N w cc cs Q := by
  intro p e s m args below meth c H locs ls Qe hC hR hl hf hq
  obtain ⟨hd, hs⟩ := wb_opn hC.2.2.2.2.2.2.2.2.2 h
  have hnx : nx = pc + 1 := of_decide_eq_true hs
  subst hnx
  rw [Nat.add_sub_cancel_left] at hd
  exact lv_isub hC.1 hC.2.1 hd (kk p e s m args below meth c H locs ls Qe hC hR hl hf hq)
theorem vi_land (k : Nat) {x y : Int64} (h : (wb_op M)[k]? = some (pc, .land, nx, tg))  (kk : wb_V G M nx l (.long (x &&& y) :: st) N w cc cs Q) : wb_V G M pc l (.long y :: .long x :: st) N w cc cs Q := by
  intro p e s m args below meth c H locs ls Qe hC hR hl hf hq
  obtain ⟨hd, hs⟩ := wb_opn hC.2.2.2.2.2.2.2.2.2 h
  have hnx : nx = pc + 1 := of_decide_eq_true hs
  subst hnx
  rw [Nat.add_sub_cancel_left] at hd
  exact lv_land hC.1 hC.2.1 hd (kk p e s m args below meth c H locs ls Qe hC hR hl hf hq)
theorem vi_lor (k : Nat) {x y : Int64} (h : (wb_op M)[k]? = some (pc, .lor, nx, tg))  (kk : wb_V G M nx l (.long (x ||| y) :: st) N w cc cs Q) : wb_V G M pc l (.long y :: .long x :: st) N w cc cs Q := by
  intro p e s m args below meth c H locs ls Qe hC hR hl hf hq
  obtain ⟨hd, hs⟩ := wb_opn hC.2.2.2.2.2.2.2.2.2 h
  have hnx : nx = pc + 1 := of_decide_eq_true hs
  subst hnx
  rw [Nat.add_sub_cancel_left] at hd
  exact lv_lor hC.1 hC.2.1 hd (kk p e s m args below meth c H locs ls Qe hC hR hl hf hq)
theorem vi_lxor (k : Nat) {x y : Int64} (h : (wb_op M)[k]? = some (pc, .lxor, nx, tg))  (kk : wb_V G M nx l (.long (x ^^^ y) :: st) N w cc cs Q) : wb_V G M pc l (.long y :: .long x :: st) N w cc cs Q := by
  intro p e s m args below meth c H locs ls Qe hC hR hl hf hq
  obtain ⟨hd, hs⟩ := wb_opn hC.2.2.2.2.2.2.2.2.2 h
  have hnx : nx = pc + 1 := of_decide_eq_true hs
  subst hnx
  rw [Nat.add_sub_cancel_left] at hd
  exact lv_lxor hC.1 hC.2.1 hd (kk p e s m args below meth c H locs ls Qe hC hR hl hf hq)
theorem vi_ladd (k : Nat) {x y : Int64} (h : (wb_op M)[k]? = some (pc, .ladd, nx, tg))  (kk : wb_V G M nx l (.long (x + y) :: st) N w cc cs Q) : wb_V G M pc l (.long y :: .long x :: st) N w cc cs Q := by
  intro p e s m args below meth c H locs ls Qe hC hR hl hf hq
  obtain ⟨hd, hs⟩ := wb_opn hC.2.2.2.2.2.2.2.2.2 h
  have hnx : nx = pc + 1 := of_decide_eq_true hs
  subst hnx
  rw [Nat.add_sub_cancel_left] at hd
  exact lv_ladd hC.1 hC.2.1 hd (kk p e s m args below meth c H locs ls Qe hC hR hl hf hq)
theorem vi_lsub (k : Nat) {x y : Int64} (h : (wb_op M)[k]? = some (pc, .lsub, nx, tg))  (kk : wb_V G M nx l (.long (x - y) :: st) N w cc cs Q) : wb_V G M pc l (.long y :: .long x :: st) N w cc cs Q := by
  intro p e s m args below meth c H locs ls Qe hC hR hl hf hq
  obtain ⟨hd, hs⟩ := wb_opn hC.2.2.2.2.2.2.2.2.2 h
  have hnx : nx = pc + 1 := of_decide_eq_true hs
  subst hnx
  rw [Nat.add_sub_cancel_left] at hd
  exact lv_lsub hC.1 hC.2.1 hd (kk p e s m args below meth c H locs ls Qe hC hR hl hf hq)
theorem vi_lneg (k : Nat) {x : Int64} (h : (wb_op M)[k]? = some (pc, .lneg, nx, tg))  (kk : wb_V G M nx l (.long (-x) :: st) N w cc cs Q) : wb_V G M pc l (.long x :: st) N w cc cs Q := by
  intro p e s m args below meth c H locs ls Qe hC hR hl hf hq
  obtain ⟨hd, hs⟩ := wb_opn hC.2.2.2.2.2.2.2.2.2 h
  have hnx : nx = pc + 1 := of_decide_eq_true hs
  subst hnx
  rw [Nat.add_sub_cancel_left] at hd
  exact lv_lneg hC.1 hC.2.1 hd (kk p e s m args below meth c H locs ls Qe hC hR hl hf hq)
theorem vi_lshl (k : Nat) {x : Int64} {y : Int32} (h : (wb_op M)[k]? = some (pc, .lshl, nx, tg))  (kk : wb_V G M nx l (.long (x <<< (y.toInt64 &&& 63)) :: st) N w cc cs Q) : wb_V G M pc l (.int y :: .long x :: st) N w cc cs Q := by
  intro p e s m args below meth c H locs ls Qe hC hR hl hf hq
  obtain ⟨hd, hs⟩ := wb_opn hC.2.2.2.2.2.2.2.2.2 h
  have hnx : nx = pc + 1 := of_decide_eq_true hs
  subst hnx
  rw [Nat.add_sub_cancel_left] at hd
  exact lv_lshl hC.1 hC.2.1 hd rfl (kk p e s m args below meth c H locs ls Qe hC hR hl hf hq)
theorem vi_lushr (k : Nat) {x : Int64} {y : Int32} (h : (wb_op M)[k]? = some (pc, .lushr, nx, tg))  (kk : wb_V G M nx l (.long ((x.toUInt64 >>> (y.toInt64.toUInt64 &&& Int64.toUInt64 63)).toInt64) :: st) N w cc cs Q) : wb_V G M pc l (.int y :: .long x :: st) N w cc cs Q := by
  intro p e s m args below meth c H locs ls Qe hC hR hl hf hq
  obtain ⟨hd, hs⟩ := wb_opn hC.2.2.2.2.2.2.2.2.2 h
  have hnx : nx = pc + 1 := of_decide_eq_true hs
  subst hnx
  rw [Nat.add_sub_cancel_left] at hd
  exact lv_lushr hC.1 hC.2.1 hd rfl (kk p e s m args below meth c H locs ls Qe hC hR hl hf hq)
theorem vi_i2l (k : Nat) {x : Int32} (h : (wb_op M)[k]? = some (pc, .i2l, nx, tg))  (kk : wb_V G M nx l (.long x.toInt64 :: st) N w cc cs Q) : wb_V G M pc l (.int x :: st) N w cc cs Q := by
  intro p e s m args below meth c H locs ls Qe hC hR hl hf hq
  obtain ⟨hd, hs⟩ := wb_opn hC.2.2.2.2.2.2.2.2.2 h
  have hnx : nx = pc + 1 := of_decide_eq_true hs
  subst hnx
  rw [Nat.add_sub_cancel_left] at hd
  exact lv_i2l hC.1 hC.2.1 hd rfl (kk p e s m args below meth c H locs ls Qe hC hR hl hf hq)
theorem vi_l2i (k : Nat) {x : Int64} (h : (wb_op M)[k]? = some (pc, .l2i, nx, tg))  (kk : wb_V G M nx l (.int x.toInt32 :: st) N w cc cs Q) : wb_V G M pc l (.long x :: st) N w cc cs Q := by
  intro p e s m args below meth c H locs ls Qe hC hR hl hf hq
  obtain ⟨hd, hs⟩ := wb_opn hC.2.2.2.2.2.2.2.2.2 h
  have hnx : nx = pc + 1 := of_decide_eq_true hs
  subst hnx
  rw [Nat.add_sub_cancel_left] at hd
  exact lv_l2i hC.1 hC.2.1 hd rfl (kk p e s m args below meth c H locs ls Qe hC hR hl hf hq)
theorem vi_i2b (k : Nat) {x : Int32} (h : (wb_op M)[k]? = some (pc, .i2b, nx, tg))  (kk : wb_V G M nx l (.int x.toInt8.toInt32 :: st) N w cc cs Q) : wb_V G M pc l (.int x :: st) N w cc cs Q := by
  intro p e s m args below meth c H locs ls Qe hC hR hl hf hq
  obtain ⟨hd, hs⟩ := wb_opn hC.2.2.2.2.2.2.2.2.2 h
  have hnx : nx = pc + 1 := of_decide_eq_true hs
  subst hnx
  rw [Nat.add_sub_cancel_left] at hd
  exact lv_i2b hC.1 hC.2.1 hd rfl (kk p e s m args below meth c H locs ls Qe hC hR hl hf hq)
theorem vi_lcmp (k : Nat) {x y : Int64} (h : (wb_op M)[k]? = some (pc, .lcmp, nx, tg))  (kk : wb_V G M nx l (.int (lg_cmp x y) :: st) N w cc cs Q) : wb_V G M pc l (.long y :: .long x :: st) N w cc cs Q := by
  intro p e s m args below meth c H locs ls Qe hC hR hl hf hq
  obtain ⟨hd, hs⟩ := wb_opn hC.2.2.2.2.2.2.2.2.2 h
  have hnx : nx = pc + 1 := of_decide_eq_true hs
  subst hnx
  rw [Nat.add_sub_cancel_left] at hd
  exact W.lcmp hC.1 hC.2.1 hd (kk p e s m args below meth c H locs ls Qe hC hR hl hf hq)
theorem vi_dup (k : Nat) {a : Value} (h : (wb_op M)[k]? = some (pc, .dup, nx, tg)) (ha : a.category = 1) (kk : wb_V G M nx l (a :: a :: st) N w cc cs Q) : wb_V G M pc l (a :: st) N w cc cs Q := by
  intro p e s m args below meth c H locs ls Qe hC hR hl hf hq
  obtain ⟨hd, hs⟩ := wb_opn hC.2.2.2.2.2.2.2.2.2 h
  have hnx : nx = pc + 1 := of_decide_eq_true hs
  subst hnx
  rw [Nat.add_sub_cancel_left] at hd
  exact lv_dup hC.1 hC.2.1 hd ((wb_cat G a).trans ha) (kk p e s m args below meth c H locs ls Qe hC hR hl hf hq)
theorem vi_pop (k : Nat) {a : Value} (h : (wb_op M)[k]? = some (pc, .pop, nx, tg)) (ha : a.category = 1) (kk : wb_V G M nx l (st) N w cc cs Q) : wb_V G M pc l (a :: st) N w cc cs Q := by
  intro p e s m args below meth c H locs ls Qe hC hR hl hf hq
  obtain ⟨hd, hs⟩ := wb_opn hC.2.2.2.2.2.2.2.2.2 h
  have hnx : nx = pc + 1 := of_decide_eq_true hs
  subst hnx
  rw [Nat.add_sub_cancel_left] at hd
  exact lv_pop hC.1 hC.2.1 hd ((wb_cat G a).trans ha) (kk p e s m args below meth c H locs ls Qe hC hR hl hf hq)
theorem vi_dup_x1 (k : Nat) {a b : Value} (h : (wb_op M)[k]? = some (pc, .dup_x1, nx, tg)) (ha : a.category = 1) (hb : b.category = 1) (kk : wb_V G M nx l (a :: b :: a :: st) N w cc cs Q) : wb_V G M pc l (a :: b :: st) N w cc cs Q := by
  intro p e s m args below meth c H locs ls Qe hC hR hl hf hq
  obtain ⟨hd, hs⟩ := wb_opn hC.2.2.2.2.2.2.2.2.2 h
  have hnx : nx = pc + 1 := of_decide_eq_true hs
  subst hnx
  rw [Nat.add_sub_cancel_left] at hd
  exact lv_dup_x1 hC.1 hC.2.1 hd ((wb_cat G a).trans ha) ((wb_cat G b).trans hb) (kk p e s m args below meth c H locs ls Qe hC hR hl hf hq)
theorem vi_dup2 (k : Nat) {a b : Value} (h : (wb_op M)[k]? = some (pc, .dup2, nx, tg)) (ha : a.category = 1) (hb : b.category = 1) (kk : wb_V G M nx l (a :: b :: a :: b :: st) N w cc cs Q) : wb_V G M pc l (a :: b :: st) N w cc cs Q := by
  intro p e s m args below meth c H locs ls Qe hC hR hl hf hq
  obtain ⟨hd, hs⟩ := wb_opn hC.2.2.2.2.2.2.2.2.2 h
  have hnx : nx = pc + 1 := of_decide_eq_true hs
  subst hnx
  rw [Nat.add_sub_cancel_left] at hd
  exact lv_dup2_11 hC.1 hC.2.1 hd ((wb_cat G a).trans ha) ((wb_cat G b).trans hb) (kk p e s m args below meth c H locs ls Qe hC hR hl hf hq)
theorem vi_dup2L (k : Nat) {a : Value} (h : (wb_op M)[k]? = some (pc, .dup2, nx, tg)) (ha : a.category = 2) (kk : wb_V G M nx l (a :: a :: st) N w cc cs Q) : wb_V G M pc l (a :: st) N w cc cs Q := by
  intro p e s m args below meth c H locs ls Qe hC hR hl hf hq
  obtain ⟨hd, hs⟩ := wb_opn hC.2.2.2.2.2.2.2.2.2 h
  have hnx : nx = pc + 1 := of_decide_eq_true hs
  subst hnx
  rw [Nat.add_sub_cancel_left] at hd
  exact lv_dup2_2 hC.1 hC.2.1 hd ((wb_cat G a).trans ha) (kk p e s m args below meth c H locs ls Qe hC hR hl hf hq)
theorem vi_icmp_eq (k : Nat) {x y : Int} {o : Int} (h : (wb_op M)[k]? = some (pc, .if_icmp .eq o, nx, tg)) (hx : -2147483648 ≤ x ∧ x ≤ 2147483647) (hy : -2147483648 ≤ y ∧ y ≤ 2147483647) (kt : x = y → wb_V G M tg l st N w cc cs Q) (kf : ¬ (x = y) → wb_V G M nx l st N w cc cs Q) : wb_V G M pc l (.int (wb_i y) :: .int (wb_i x) :: st) N w cc cs Q := by
  intro p e s m args below meth c H locs ls Qe hC hR hl hf hq
  obtain ⟨hd, hs⟩ := wb_opn hC.2.2.2.2.2.2.2.2.2 h
  have hs2 : nx = pc + 3 ∧ (pc : Int) + o = (tg : Int) := ⟨of_decide_eq_true (wb_and hs).1, of_decide_eq_true (wb_and hs).2⟩
  obtain ⟨hnx, htg⟩ := hs2
  subst hnx
  rw [Nat.add_sub_cancel_left] at hd
  have E : wb_i x = wb_i y ↔ x = y := wb_i_eq (b := y) hx hy
  exact lv_icmp_eq hC.1 hC.2.1 hd htg (fun q => kt (E.mp q) p e s m args below meth c H locs ls Qe hC hR hl hf hq) (fun q => kf (fun z => q (E.mpr z)) p e s m args below meth c H locs ls Qe hC hR hl hf hq)
theorem vi_if_eq (k : Nat) {x : Int} {o : Int} (h : (wb_op M)[k]? = some (pc, .ifCond .eq o, nx, tg)) (hx : -2147483648 ≤ x ∧ x ≤ 2147483647) (kt : x = 0 → wb_V G M tg l st N w cc cs Q) (kf : ¬ (x = 0) → wb_V G M nx l st N w cc cs Q) : wb_V G M pc l (.int (wb_i x) :: st) N w cc cs Q := by
  intro p e s m args below meth c H locs ls Qe hC hR hl hf hq
  obtain ⟨hd, hs⟩ := wb_opn hC.2.2.2.2.2.2.2.2.2 h
  have hs2 : nx = pc + 3 ∧ (pc : Int) + o = (tg : Int) := ⟨of_decide_eq_true (wb_and hs).1, of_decide_eq_true (wb_and hs).2⟩
  obtain ⟨hnx, htg⟩ := hs2
  subst hnx
  rw [Nat.add_sub_cancel_left] at hd
  have E : wb_i x = wb_i 0 ↔ x = 0 := wb_i_eq (b := 0) hx (by omega)
  exact lv_if_eq hC.1 hC.2.1 hd htg (fun q => kt (E.mp q) p e s m args below meth c H locs ls Qe hC hR hl hf hq) (fun q => kf (fun z => q (E.mpr z)) p e s m args below meth c H locs ls Qe hC hR hl hf hq)
theorem vi_icmp_ne (k : Nat) {x y : Int} {o : Int} (h : (wb_op M)[k]? = some (pc, .if_icmp .ne o, nx, tg)) (hx : -2147483648 ≤ x ∧ x ≤ 2147483647) (hy : -2147483648 ≤ y ∧ y ≤ 2147483647) (kt : ¬ x = y → wb_V G M tg l st N w cc cs Q) (kf : x = y → wb_V G M nx l st N w cc cs Q) : wb_V G M pc l (.int (wb_i y) :: .int (wb_i x) :: st) N w cc cs Q := by
  intro p e s m args below meth c H locs ls Qe hC hR hl hf hq
  obtain ⟨hd, hs⟩ := wb_opn hC.2.2.2.2.2.2.2.2.2 h
  have hs2 : nx = pc + 3 ∧ (pc : Int) + o = (tg : Int) := ⟨of_decide_eq_true (wb_and hs).1, of_decide_eq_true (wb_and hs).2⟩
  obtain ⟨hnx, htg⟩ := hs2
  subst hnx
  rw [Nat.add_sub_cancel_left] at hd
  have E : wb_i x = wb_i y ↔ x = y := wb_i_eq (b := y) hx hy
  exact lv_icmp_ne hC.1 hC.2.1 hd htg (fun q => kt (fun z => q (E.mpr z)) p e s m args below meth c H locs ls Qe hC hR hl hf hq) (fun q => kf (E.mp q) p e s m args below meth c H locs ls Qe hC hR hl hf hq)
theorem vi_if_ne (k : Nat) {x : Int} {o : Int} (h : (wb_op M)[k]? = some (pc, .ifCond .ne o, nx, tg)) (hx : -2147483648 ≤ x ∧ x ≤ 2147483647) (kt : ¬ x = 0 → wb_V G M tg l st N w cc cs Q) (kf : x = 0 → wb_V G M nx l st N w cc cs Q) : wb_V G M pc l (.int (wb_i x) :: st) N w cc cs Q := by
  intro p e s m args below meth c H locs ls Qe hC hR hl hf hq
  obtain ⟨hd, hs⟩ := wb_opn hC.2.2.2.2.2.2.2.2.2 h
  have hs2 : nx = pc + 3 ∧ (pc : Int) + o = (tg : Int) := ⟨of_decide_eq_true (wb_and hs).1, of_decide_eq_true (wb_and hs).2⟩
  obtain ⟨hnx, htg⟩ := hs2
  subst hnx
  rw [Nat.add_sub_cancel_left] at hd
  have E : wb_i x = wb_i 0 ↔ x = 0 := wb_i_eq (b := 0) hx (by omega)
  exact lv_if_ne hC.1 hC.2.1 hd htg (fun q => kt (fun z => q (E.mpr z)) p e s m args below meth c H locs ls Qe hC hR hl hf hq) (fun q => kf (E.mp q) p e s m args below meth c H locs ls Qe hC hR hl hf hq)
theorem vi_icmp_lt (k : Nat) {x y : Int} {o : Int} (h : (wb_op M)[k]? = some (pc, .if_icmp .lt o, nx, tg)) (hx : -2147483648 ≤ x ∧ x ≤ 2147483647) (hy : -2147483648 ≤ y ∧ y ≤ 2147483647) (kt : x < y → wb_V G M tg l st N w cc cs Q) (kf : ¬ (x < y) → wb_V G M nx l st N w cc cs Q) : wb_V G M pc l (.int (wb_i y) :: .int (wb_i x) :: st) N w cc cs Q := by
  intro p e s m args below meth c H locs ls Qe hC hR hl hf hq
  obtain ⟨hd, hs⟩ := wb_opn hC.2.2.2.2.2.2.2.2.2 h
  have hs2 : nx = pc + 3 ∧ (pc : Int) + o = (tg : Int) := ⟨of_decide_eq_true (wb_and hs).1, of_decide_eq_true (wb_and hs).2⟩
  obtain ⟨hnx, htg⟩ := hs2
  subst hnx
  rw [Nat.add_sub_cancel_left] at hd
  have E : wb_i x < wb_i y ↔ x < y := wb_i_lt (b := y) hx hy
  exact lv_icmp_lt hC.1 hC.2.1 hd htg (fun q => kt (E.mp q) p e s m args below meth c H locs ls Qe hC hR hl hf hq) (fun q => kf (fun z => q (E.mpr z)) p e s m args below meth c H locs ls Qe hC hR hl hf hq)
theorem vi_if_lt (k : Nat) {x : Int} {o : Int} (h : (wb_op M)[k]? = some (pc, .ifCond .lt o, nx, tg)) (hx : -2147483648 ≤ x ∧ x ≤ 2147483647) (kt : x < 0 → wb_V G M tg l st N w cc cs Q) (kf : ¬ (x < 0) → wb_V G M nx l st N w cc cs Q) : wb_V G M pc l (.int (wb_i x) :: st) N w cc cs Q := by
  intro p e s m args below meth c H locs ls Qe hC hR hl hf hq
  obtain ⟨hd, hs⟩ := wb_opn hC.2.2.2.2.2.2.2.2.2 h
  have hs2 : nx = pc + 3 ∧ (pc : Int) + o = (tg : Int) := ⟨of_decide_eq_true (wb_and hs).1, of_decide_eq_true (wb_and hs).2⟩
  obtain ⟨hnx, htg⟩ := hs2
  subst hnx
  rw [Nat.add_sub_cancel_left] at hd
  have E : wb_i x < wb_i 0 ↔ x < 0 := wb_i_lt (b := 0) hx (by omega)
  exact lv_if_lt hC.1 hC.2.1 hd htg (fun q => kt (E.mp q) p e s m args below meth c H locs ls Qe hC hR hl hf hq) (fun q => kf (fun z => q (E.mpr z)) p e s m args below meth c H locs ls Qe hC hR hl hf hq)
theorem vi_icmp_le (k : Nat) {x y : Int} {o : Int} (h : (wb_op M)[k]? = some (pc, .if_icmp .le o, nx, tg)) (hx : -2147483648 ≤ x ∧ x ≤ 2147483647) (hy : -2147483648 ≤ y ∧ y ≤ 2147483647) (kt : x ≤ y → wb_V G M tg l st N w cc cs Q) (kf : ¬ (x ≤ y) → wb_V G M nx l st N w cc cs Q) : wb_V G M pc l (.int (wb_i y) :: .int (wb_i x) :: st) N w cc cs Q := by
  intro p e s m args below meth c H locs ls Qe hC hR hl hf hq
  obtain ⟨hd, hs⟩ := wb_opn hC.2.2.2.2.2.2.2.2.2 h
  have hs2 : nx = pc + 3 ∧ (pc : Int) + o = (tg : Int) := ⟨of_decide_eq_true (wb_and hs).1, of_decide_eq_true (wb_and hs).2⟩
  obtain ⟨hnx, htg⟩ := hs2
  subst hnx
  rw [Nat.add_sub_cancel_left] at hd
  have E : wb_i x ≤ wb_i y ↔ x ≤ y := wb_i_le (b := y) hx hy
  exact lv_icmp_le hC.1 hC.2.1 hd htg (fun q => kt (E.mp q) p e s m args below meth c H locs ls Qe hC hR hl hf hq) (fun q => kf (fun z => q (E.mpr z)) p e s m args below meth c H locs ls Qe hC hR hl hf hq)
theorem vi_if_le (k : Nat) {x : Int} {o : Int} (h : (wb_op M)[k]? = some (pc, .ifCond .le o, nx, tg)) (hx : -2147483648 ≤ x ∧ x ≤ 2147483647) (kt : x ≤ 0 → wb_V G M tg l st N w cc cs Q) (kf : ¬ (x ≤ 0) → wb_V G M nx l st N w cc cs Q) : wb_V G M pc l (.int (wb_i x) :: st) N w cc cs Q := by
  intro p e s m args below meth c H locs ls Qe hC hR hl hf hq
  obtain ⟨hd, hs⟩ := wb_opn hC.2.2.2.2.2.2.2.2.2 h
  have hs2 : nx = pc + 3 ∧ (pc : Int) + o = (tg : Int) := ⟨of_decide_eq_true (wb_and hs).1, of_decide_eq_true (wb_and hs).2⟩
  obtain ⟨hnx, htg⟩ := hs2
  subst hnx
  rw [Nat.add_sub_cancel_left] at hd
  have E : wb_i x ≤ wb_i 0 ↔ x ≤ 0 := wb_i_le (b := 0) hx (by omega)
  exact lv_if_le hC.1 hC.2.1 hd htg (fun q => kt (E.mp q) p e s m args below meth c H locs ls Qe hC hR hl hf hq) (fun q => kf (fun z => q (E.mpr z)) p e s m args below meth c H locs ls Qe hC hR hl hf hq)
theorem vi_icmp_gt (k : Nat) {x y : Int} {o : Int} (h : (wb_op M)[k]? = some (pc, .if_icmp .gt o, nx, tg)) (hx : -2147483648 ≤ x ∧ x ≤ 2147483647) (hy : -2147483648 ≤ y ∧ y ≤ 2147483647) (kt : y < x → wb_V G M tg l st N w cc cs Q) (kf : ¬ (y < x) → wb_V G M nx l st N w cc cs Q) : wb_V G M pc l (.int (wb_i y) :: .int (wb_i x) :: st) N w cc cs Q := by
  intro p e s m args below meth c H locs ls Qe hC hR hl hf hq
  obtain ⟨hd, hs⟩ := wb_opn hC.2.2.2.2.2.2.2.2.2 h
  have hs2 : nx = pc + 3 ∧ (pc : Int) + o = (tg : Int) := ⟨of_decide_eq_true (wb_and hs).1, of_decide_eq_true (wb_and hs).2⟩
  obtain ⟨hnx, htg⟩ := hs2
  subst hnx
  rw [Nat.add_sub_cancel_left] at hd
  have E : wb_i y < wb_i x ↔ y < x := wb_i_lt (a := y) hy hx
  exact lv_icmp_gt hC.1 hC.2.1 hd htg (fun q => kt (E.mp q) p e s m args below meth c H locs ls Qe hC hR hl hf hq) (fun q => kf (fun z => q (E.mpr z)) p e s m args below meth c H locs ls Qe hC hR hl hf hq)
theorem vi_if_gt (k : Nat) {x : Int} {o : Int} (h : (wb_op M)[k]? = some (pc, .ifCond .gt o, nx, tg)) (hx : -2147483648 ≤ x ∧ x ≤ 2147483647) (kt : 0 < x → wb_V G M tg l st N w cc cs Q) (kf : ¬ (0 < x) → wb_V G M nx l st N w cc cs Q) : wb_V G M pc l (.int (wb_i x) :: st) N w cc cs Q := by
  intro p e s m args below meth c H locs ls Qe hC hR hl hf hq
  obtain ⟨hd, hs⟩ := wb_opn hC.2.2.2.2.2.2.2.2.2 h
  have hs2 : nx = pc + 3 ∧ (pc : Int) + o = (tg : Int) := ⟨of_decide_eq_true (wb_and hs).1, of_decide_eq_true (wb_and hs).2⟩
  obtain ⟨hnx, htg⟩ := hs2
  subst hnx
  rw [Nat.add_sub_cancel_left] at hd
  have E : wb_i 0 < wb_i x ↔ 0 < x := wb_i_lt (a := 0) (by omega) hx
  exact lv_if_gt hC.1 hC.2.1 hd htg (fun q => kt (E.mp q) p e s m args below meth c H locs ls Qe hC hR hl hf hq) (fun q => kf (fun z => q (E.mpr z)) p e s m args below meth c H locs ls Qe hC hR hl hf hq)
theorem vi_icmp_ge (k : Nat) {x y : Int} {o : Int} (h : (wb_op M)[k]? = some (pc, .if_icmp .ge o, nx, tg)) (hx : -2147483648 ≤ x ∧ x ≤ 2147483647) (hy : -2147483648 ≤ y ∧ y ≤ 2147483647) (kt : y ≤ x → wb_V G M tg l st N w cc cs Q) (kf : ¬ (y ≤ x) → wb_V G M nx l st N w cc cs Q) : wb_V G M pc l (.int (wb_i y) :: .int (wb_i x) :: st) N w cc cs Q := by
  intro p e s m args below meth c H locs ls Qe hC hR hl hf hq
  obtain ⟨hd, hs⟩ := wb_opn hC.2.2.2.2.2.2.2.2.2 h
  have hs2 : nx = pc + 3 ∧ (pc : Int) + o = (tg : Int) := ⟨of_decide_eq_true (wb_and hs).1, of_decide_eq_true (wb_and hs).2⟩
  obtain ⟨hnx, htg⟩ := hs2
  subst hnx
  rw [Nat.add_sub_cancel_left] at hd
  have E : wb_i y ≤ wb_i x ↔ y ≤ x := wb_i_le (a := y) hy hx
  exact lv_icmp_ge hC.1 hC.2.1 hd htg (fun q => kt (E.mp q) p e s m args below meth c H locs ls Qe hC hR hl hf hq) (fun q => kf (fun z => q (E.mpr z)) p e s m args below meth c H locs ls Qe hC hR hl hf hq)
theorem vi_if_ge (k : Nat) {x : Int} {o : Int} (h : (wb_op M)[k]? = some (pc, .ifCond .ge o, nx, tg)) (hx : -2147483648 ≤ x ∧ x ≤ 2147483647) (kt : 0 ≤ x → wb_V G M tg l st N w cc cs Q) (kf : ¬ (0 ≤ x) → wb_V G M nx l st N w cc cs Q) : wb_V G M pc l (.int (wb_i x) :: st) N w cc cs Q := by
  intro p e s m args below meth c H locs ls Qe hC hR hl hf hq
  obtain ⟨hd, hs⟩ := wb_opn hC.2.2.2.2.2.2.2.2.2 h
  have hs2 : nx = pc + 3 ∧ (pc : Int) + o = (tg : Int) := ⟨of_decide_eq_true (wb_and hs).1, of_decide_eq_true (wb_and hs).2⟩
  obtain ⟨hnx, htg⟩ := hs2
  subst hnx
  rw [Nat.add_sub_cancel_left] at hd
  have E : wb_i 0 ≤ wb_i x ↔ 0 ≤ x := wb_i_le (a := 0) (by omega) hx
  exact lv_if_ge hC.1 hC.2.1 hd htg (fun q => kt (E.mp q) p e s m args below meth c H locs ls Qe hC hR hl hf hq) (fun q => kf (fun z => q (E.mpr z)) p e s m args below meth c H locs ls Qe hC hR hl hf hq)
theorem vi_if_eq32 (k : Nat) {x : Int32} {o : Int} (h : (wb_op M)[k]? = some (pc, .ifCond .eq o, nx, tg)) (kt : x = 0 → wb_V G M tg l st N w cc cs Q) (kf : ¬ x = 0 → wb_V G M nx l st N w cc cs Q) : wb_V G M pc l (.int x :: st) N w cc cs Q := by
  intro p e s m args below meth c H locs ls Qe hC hR hl hf hq
  obtain ⟨hd, hs⟩ := wb_opn hC.2.2.2.2.2.2.2.2.2 h
  have hs2 : nx = pc + 3 ∧ (pc : Int) + o = (tg : Int) := ⟨of_decide_eq_true (wb_and hs).1, of_decide_eq_true (wb_and hs).2⟩
  obtain ⟨hnx, htg⟩ := hs2
  subst hnx
  rw [Nat.add_sub_cancel_left] at hd
  exact lv_if_eq hC.1 hC.2.1 hd htg (fun q => kt q p e s m args below meth c H locs ls Qe hC hR hl hf hq) (fun q => kf q p e s m args below meth c H locs ls Qe hC hR hl hf hq)
theorem vi_if_ne32 (k : Nat) {x : Int32} {o : Int} (h : (wb_op M)[k]? = some (pc, .ifCond .ne o, nx, tg)) (kt : ¬ x = 0 → wb_V G M tg l st N w cc cs Q) (kf : x = 0 → wb_V G M nx l st N w cc cs Q) : wb_V G M pc l (.int x :: st) N w cc cs Q := by
  intro p e s m args below meth c H locs ls Qe hC hR hl hf hq
  obtain ⟨hd, hs⟩ := wb_opn hC.2.2.2.2.2.2.2.2.2 h
  have hs2 : nx = pc + 3 ∧ (pc : Int) + o = (tg : Int) := ⟨of_decide_eq_true (wb_and hs).1, of_decide_eq_true (wb_and hs).2⟩
  obtain ⟨hnx, htg⟩ := hs2
  subst hnx
  rw [Nat.add_sub_cancel_left] at hd
  exact lv_if_ne hC.1 hC.2.1 hd htg (fun q => kt q p e s m args below meth c H locs ls Qe hC hR hl hf hq) (fun q => kf q p e s m args below meth c H locs ls Qe hC hR hl hf hq)
theorem vi_goto (k : Nat) {o : Int} (h : (wb_op M)[k]? = some (pc, .goto o, nx, tg)) (kk : wb_V G M tg l st N w cc cs Q) : wb_V G M pc l st N w cc cs Q := by
  intro p e s m args below meth c H locs ls Qe hC hR hl hf hq
  obtain ⟨hd, hs⟩ := wb_opn hC.2.2.2.2.2.2.2.2.2 h
  have hs2 : nx = pc + 3 ∧ (pc : Int) + o = (tg : Int) := ⟨of_decide_eq_true (wb_and hs).1, of_decide_eq_true (wb_and hs).2⟩
  obtain ⟨hnx, htg⟩ := hs2
  subst hnx
  rw [Nat.add_sub_cancel_left] at hd
  exact lv_goto hC.1 hC.2.1 hd htg (kk p e s m args below meth c H locs ls Qe hC hR hl hf hq)
theorem vi_tab (k : Nat) {dflt lo hi : Int} {offs : Array Int} {x : Int} (t : Nat) (h : (wb_op M)[k]? = some (pc, .tableswitch dflt lo hi offs, nx, tg)) (hx : -2147483648 ≤ x ∧ x ≤ 2147483647) (ht : ((x < lo ∨ hi < x) ∧ (pc : Int) + dflt = (t : Int)) ∨ (lo ≤ x ∧ x ≤ hi ∧ ∃ off, offs[(x - lo).toNat]? = some off ∧ (pc : Int) + off = (t : Int))) (kk : wb_V G M t l st N w cc cs Q) : wb_V G M pc l (.int (wb_i x) :: st) N w cc cs Q := by
  intro p e s m args below meth c H locs ls Qe hC hR hl hf hq
  obtain ⟨hd, hs⟩ := wb_opn hC.2.2.2.2.2.2.2.2.2 h
  rcases ht with ⟨h1, h2⟩ | ⟨h1, h2, off, h3, h4⟩
  · exact lv_tableOut hC.1 hC.2.1 hd (by rw [wb_i_toInt hx]; exact h1) h2 (kk p e s m args below meth c H locs ls Qe hC hR hl hf hq)
  · exact lv_tableIn hC.1 hC.2.1 hd (by rw [wb_i_toInt hx]; omega) (by rw [wb_i_toInt hx]; omega) (by rw [wb_i_toInt hx]; exact h3) h4 (kk p e s m args below meth c H locs ls Qe hC hR hl hf hq)
theorem vi_loc (l' : List (Nat × Value)) (hl' : wb_loc l l') (kk : wb_V G M pc l' st N w cc cs Q) : wb_V G M pc l st N w cc cs Q := by
  intro p e s m args below meth c H locs ls Qe hC hR hl hf hq
  refine kk p e s m args below meth c H locs ls Qe hC hR ⟨hl.1, hl.2.1, fun q hq2 => ?_⟩ hf hq
  obtain ⟨r, hr, rfl⟩ := List.mem_map.mp hq2
  have : ∀ l', wb_loc l l' → ∀ r ∈ l', wb_get l r.1 = some r.2 := by
    intro l'
    induction l' with
    | nil => intro _ r hr; cases hr
    | cons a b ih =>
      intro h r hr
      rcases List.mem_cons.mp hr with rfl | hr
      · exact h.1
      · exact ih h.2 r hr
  exact wb_at_l hl (this l' hl' r hr)
theorem vi_Q {Q' : Option Value → Nat → wb_W → Prop} (hQ : ∀ v n u, Q' v n u → Q v n u) (kk : wb_V G M pc l st N w cc cs Q') : wb_V G M pc l st N w cc cs Q := by
  intro p e s m args below meth c H locs ls Qe hC hR hl hf hq
  exact kk p e s m args below meth c H locs ls Qe hC hR hl hf (fun v N' w' H' locs' cc' cs' pc' ls' h1 => hq v N' w' H' locs' cc' cs' pc' ls' (hQ v N' w' h1))
theorem vi_ireturn (k : Nat) {x : Int32} (h : (wb_op M)[k]? = some (pc, .ireturn, nx, tg)) {ty : FieldType} (hr : wb_rt M = some ty) (hn : narrow ty (.int x) = .int x) (h1 : cc ≤ (wb_rm M).cells) (h2 : cs ≤ (wb_rm M).slots) (hQ : Q (some (.int x)) N w) : wb_V G M pc l [.int x] N w cc cs Q := by
  intro p e s m args below meth c H locs ls Qe hC hR hl hf hq
  obtain ⟨hd, hs⟩ := wb_opn hC.2.2.2.2.2.2.2.2.2 h
  have hnx : nx = pc + 1 := of_decide_eq_true hs
  subst hnx
  rw [Nat.add_sub_cancel_left] at hd
  exact hq (some (.int x)) N w H locs cc cs pc ls hQ hR hf h1 h2 (Or.inl ⟨hd, x, ty, rfl, hr, hn⟩)
theorem vi_lreturn (k : Nat) {x : Int64} (h : (wb_op M)[k]? = some (pc, .lreturn, nx, tg)) (hr : wb_rt M = some .long) (h1 : cc ≤ (wb_rm M).cells) (h2 : cs ≤ (wb_rm M).slots) (hQ : Q (some (.long x)) N w) : wb_V G M pc l [.long x] N w cc cs Q := by
  intro p e s m args below meth c H locs ls Qe hC hR hl hf hq
  obtain ⟨hd, hs⟩ := wb_opn hC.2.2.2.2.2.2.2.2.2 h
  have hnx : nx = pc + 1 := of_decide_eq_true hs
  subst hnx
  rw [Nat.add_sub_cancel_left] at hd
  exact hq (some (.long x)) N w H locs cc cs pc ls hQ hR hf h1 h2 (Or.inr (Or.inl ⟨hd, x, rfl, hr⟩))
theorem vi_areturn (k : Nat) {x : Nat} {n : String} (h : (wb_op M)[k]? = some (pc, .areturn, nx, tg)) (hr : wb_rt M = some (.object n)) (h1 : cc ≤ (wb_rm M).cells) (h2 : cs ≤ (wb_rm M).slots) (hQ : Q (some (.ref x)) N w) : wb_V G M pc l [.ref x] N w cc cs Q := by
  intro p e s m args below meth c H locs ls Qe hC hR hl hf hq
  obtain ⟨hd, hs⟩ := wb_opn hC.2.2.2.2.2.2.2.2.2 h
  have hnx : nx = pc + 1 := of_decide_eq_true hs
  subst hnx
  rw [Nat.add_sub_cancel_left] at hd
  exact hq (some (.ref x)) N w H locs cc cs pc ls hQ hR hf h1 h2 (Or.inr (Or.inr (Or.inl ⟨hd, x, n, rfl, hr⟩)))
theorem vi_return (k : Nat) (h : (wb_op M)[k]? = some (pc, .return_, nx, tg)) (hr : wb_rt M = none) (h1 : cc ≤ (wb_rm M).cells) (h2 : cs ≤ (wb_rm M).slots) (hQ : Q none N w) : wb_V G M pc l [] N w cc cs Q := by
  intro p e s m args below meth c H locs ls Qe hC hR hl hf hq
  obtain ⟨hd, hs⟩ := wb_opn hC.2.2.2.2.2.2.2.2.2 h
  have hnx : nx = pc + 1 := of_decide_eq_true hs
  subst hnx
  rw [Nat.add_sub_cancel_left] at hd
  exact hq none N w H locs cc cs pc ls hQ hR hf h1 h2 (Or.inr (Or.inr (Or.inr ⟨hd, rfl, hr⟩)))
end WBROWS
end
section
/-! ===== rows of the heap ===== -/
/-- arrays as entries of the world: ints, booleans, bytes (by a function of whole numbers), longs, references -/
def aI (n : Nat) (g : Int → Int) : va_E := .inl (0, n, .inl (fun j => wb_i (g j)))
def aZ (n : Nat) (g : Int → Int) : va_E := .inl (2, n, .inl (fun j => wb_i (g j)))
def aB (n : Nat) (g : Int → Int) : va_E := .inl (3, n, .inl (fun j => wb_i (g j)))
def aL (n : Nat) (g : Int → Int64) : va_E := .inl (1, n, .inr (.inl (fun j => g j)))
def aQ (t n : Nat) (g : Nat → Option Nat) : va_E := .inl (t, n, .inr (.inr (.inr (.inr g))))
def wb_u {α : Type} (g : Int → α) (i : Int) (v : α) : Int → α := fun j => if j = i then v else g j
def wb_CL (ci : Nat) (C : String) (T : u_T) (Nf : Nat) (ty : Nat → FieldType) : Prop := vwCl[ci]? = some (C, T, Nf) ∧ (∀ w ∈ u_ws C T Nf, w ∈ wb_GW) ∧ (∀ k, k < Nf → parseFieldDescriptor (T k).2.2.1 = some (ty k)) ∧ (∀ a, a < Nf → ∀ b, b < Nf → a ≠ b → (T a).2.1 ≠ (T b).2.1) ∧ Cond.instantiable C Nf ∈ wb_GW ∧ Cond.initialized C ∈ wb_GW
def wb_fl (o : String) (idx : Nat) (d n t : String) : Prop := Cond.fieldLink o idx d n t ∈ wb_GW ∨ ∃ host, Cond.fieldLinkNest o idx d n t host ∈ wb_NW
/-- a field's link: place fk of class ci; its type, whether it is final -/
def wb_LF (o : String) (idx ci fk : Nat) (tf : FieldType) (fin : Bool) : Prop := ∃ (C : String) (T : u_T) (Nf : Nat) (ty : Nat → FieldType), wb_CL ci C T Nf ty ∧ fk < Nf ∧ wb_fl o idx (T fk).1 (T fk).2.1 (T fk).2.2.1 ∧ ty fk = tf ∧ (T fk).2.2.2 = fin
def wb_LFF (o : String) (idx ci fk : Nat) (tf : FieldType) : Prop := ∃ (C : String) (T : u_T) (Nf : Nat) (ty : Nat → FieldType), wb_CL ci C T Nf ty ∧ fk < Nf ∧ Cond.fieldLink o idx (T fk).1 (T fk).2.1 (T fk).2.2.1 ∈ wb_GW ∧ ty fk = tf ∧ (T fk).2.2.2 = true ∧ (T fk).1 = o
def wb_LN (o : String) (idx ci : Nat) (fs : List Value) : Prop := ∃ (C : String) (T : u_T) (ty : Nat → FieldType), wb_CL ci C T fs.length ty ∧ Cond.classLink o idx C ∈ wb_GW ∧ (∀ j, j < fs.length → defaultValue (ty j) = vp_V fs j)
theorem wb_one {D : va_G} {a : Nat} {e : va_E} {H : Heap} (h : va_at D vwCl (a, e) H) : va_P D vwCl [(a, e)] H := by
  intro k q hk
  cases k with
  | zero => cases hk; exact h
  | succ k => simp at hk
theorem wb_R.at {G : wb_G} {s : State} {H : Heap} {N : Nat} {w : wb_W} (h : wb_R G s H N w) {k : Nat} {e : va_E} (hw : w k = e) (he : e ≠ wb_no) : 3 ≤ k ∧ k < N ∧ va_at (wb_gD G) vwCl (wb_ad G k, wb_tE G e) H := by
  obtain ⟨h1, h2⟩ := h.rng (k := k) (by rw [hw]; exact he)
  have := h.2.2.1 k h1 h2
  rw [hw] at this
  exact ⟨h1, h2, this⟩
theorem wb_lf {s : State} {args : Array Value} {w : Cond} (hC : ∀ w ∈ wb_GW, w.before args s = true) (h : w ∈ wb_GW) : w.before args s = true := hC w h
section WBHEAP
variable {G : wb_G} {M : wb_MD} {pc nx tg : Nat} {l : List (Nat × Value)} {st : List Value} {N : Nat} {w : wb_W} {cc cs : Nat} {Q : Option Value → Nat → wb_W → Prop}
theorem vi_get (k : Nat) {idx q ci fk : Nat} {fs : List Value} {v : Value} {tf : FieldType} {fin : Bool} (h : (wb_op M)[k]? = some (pc, .getfield idx, nx, tg)) (hL : wb_LF (wb_nm M).cls idx ci fk tf fin) (hw : w q = .inr (ci, fs)) (hc : Nat.blt ci 99 = true) (hv : fs[fk]? = some v) (kk : wb_V G M nx l (v :: st) N w cc cs Q) : wb_V G M pc l (.ref q :: st) N w cc cs Q := by
  intro p e s m args below meth c H locs ls Qe hC hR hl hf hq
  obtain ⟨hd, hs⟩ := wb_opn hC.2.2.2.2.2.2.2.2.2 h
  have hnx : nx = pc + 3 := of_decide_eq_true hs
  subst hnx
  rw [Nat.add_sub_cancel_left] at hd
  obtain ⟨C, T, Nf, ty, hCL, hfk, hlk, -, -⟩ := hL
  obtain ⟨-, -, ha⟩ := hR.at hw (by intro q; unfold wb_no at q; cases q; exact absurd hc (by decide))
  have K := kk p e s m args below meth c H locs ls Qe hC hR hl hf hq
  rcases hlk with hlk | ⟨host, hlk⟩
  · exact va_get hC.1 hC.2.1 hC.2.2.2.2.2.2.2.1 hCL.2.1 hC.2.2.2.2.2.2.1 hC.2.2.2.2.2.2.2.2.1.1 (wb_one ha) 0 rfl hCL.1 fk hfk (hC.2.2.2.2.2.2.2.1 _ hlk) (fun _ h => h) (by rw [List.getElem?_map, hv]; rfl) hd K
  · exact va_getN hC.1 hC.2.1 hC.2.2.2.2.2.2.2.1 hCL.2.1 hC.2.2.2.2.2.2.1 hC.2.2.2.2.2.2.2.2.1.1 (wb_one ha) 0 rfl hCL.1 fk hfk (va_Nw.use rfl (hC.2.2.2.2.2.2.2.2.1.2.1 _ hlk)) (fun _ h => h) (by rw [List.getElem?_map, hv]; rfl) hd K
theorem vi_put (k : Nat) {idx q ci fk : Nat} {fs : List Value} {v : Value} {tf : FieldType} (h : (wb_op M)[k]? = some (pc, .putfield idx, nx, tg)) (hL : wb_LF (wb_nm M).cls idx ci fk tf false) (hw : w q = .inr (ci, fs)) (hc : Nat.blt ci 99 = true) (hlen : Nat.blt fk fs.length = true) (hn : narrow tf (wb_tr G v) = wb_tr G v) (hft : fits tf (wb_tr G v) = true) (kk : wb_V G M nx l st N (va_up w q (.inr (ci, fs.set fk v))) cc cs Q) : wb_V G M pc l (v :: .ref q :: st) N w cc cs Q := by
  intro p e s m args below meth c H locs ls Qe hC hR hl hf hq
  obtain ⟨hd, hs⟩ := wb_opn hC.2.2.2.2.2.2.2.2.2 h
  have hnx : nx = pc + 3 := of_decide_eq_true hs
  subst hnx
  rw [Nat.add_sub_cancel_left] at hd
  obtain ⟨C, T, Nf, ty, hCL, hfk, hlk, hty, hfin⟩ := hL
  obtain ⟨h3, hqN, ha⟩ := hR.at hw (by intro q; unfold wb_no at q; cases q; exact absurd hc (by decide))
  have hK := hC.2.2.2.2.2.2.2.2.1.1
  have hap := va_apart (own := (wb_nm M).cls) hC.2.2.2.2.2.2.2.1 hCL.2.1 ty hCL.2.2.1 hCL.2.2.2.1 hK hCL.1
  obtain ⟨r, h1, cell, q1, q2, q3, q4⟩ := ha
  have hr : r = (C, T, Nf) := Option.some.inj (h1.symm.trans hCL.1)
  subst hr
  obtain ⟨hS, hfc, kC, hkC, hkind⟩ := hK.1 ci _ hCL.1
  obtain ⟨cf, kf, fi, f, hi, hsl⟩ := hS fk hfk
  have hlay := hC.2.2.2.2.2.2.2.1 _ (hCL.2.1 _ (u_in_lay hfk))
  unfold u_lay at hlay
  rw [if_neg (by rw [hfin]; decide)] at hlay
  have hst := (u_facts hfc hkC (u_lays hC.2.2.2.2.2.2.2.1 hCL.2.1 hfk) hi).1
  have h6 := u_store hfc hkC hkind hlay hi (hCL.2.2.1 fk hfk) (by rw [hty]; exact hn) (by rw [hty]; exact hft)
  have go : ∀ H1 : Heap, H1[wb_ad G q]? = some (cell.setSlot f.slot (wb_tr G v)) → H1.size = H.size → (∀ x, x ≠ wb_ad G q → H1[x]? = H[x]?) → W p (wb_gl G) e (wb_rm M) s m args below meth c H1 (locs ++ [⟨wb_ad G q, f.slot⟩]) cc cs Qe (F0 m (pc + 3) ls (st.map (wb_tr G))) := by
    intro H1 e1 e2 e3
    rw [hsl] at e1 ⊢
    refine kk p e s m args below meth c H1 _ ls Qe hC (hR.set h3 hqN e2 e3 ?_) hl (fun x hx => ?_) hq
    · refine ⟨_, hCL.1, t_OB.to (V := updV (vp_V (fs.map (wb_tr G))) fk (wb_tr G v)) ⟨_, e1, q2, q3, t_set q4 hap hfk (wb_tr G v)⟩ (fun j _ => ?_)⟩
      rw [List.map_set]
      exact vp_updV_set (by rw [List.length_map]; exact wb_lt hlen) _ j
    · rcases List.mem_append.mp hx with hx | hx
      · exact hf x hx
      · rw [List.mem_singleton.mp hx]
        show wb_gb G ≤ wb_ad G q
        unfold wb_ad
        rw [if_neg (by omega)]
        omega
  rcases hlk with hlk | ⟨host, hlk⟩
  · exact W.putK hC.1 hC.2.1 (f := f) ⟨hC.2.2.2.2.2.2.1, hC.2.2.2.2.2.2.2.1 _ hlk, ⟨_, _, _, hi⟩, hst⟩ (by rw [q2]; exact h6) q1 q3 (by rw [hsl]; exact k2_hasslot (q4 fk hfk)) rfl rfl hd go
  · exact va_WputK hC.1 hC.2.1 (f := f) hC.2.2.2.2.2.2.1 (va_Nw.use rfl (hC.2.2.2.2.2.2.2.2.1.2.1 _ hlk)) hi hst (by rw [q2]; exact h6) q1 q3 (by rw [hsl]; exact k2_hasslot (q4 fk hfk)) rfl rfl hd go
theorem vi_putF (k : Nat) {idx q ci fk : Nat} {fs : List Value} {v : Value} {tf : FieldType} (h : (wb_op M)[k]? = some (pc, .putfield idx, nx, tg)) (hL : wb_LFF (wb_nm M).cls idx ci fk tf) (hini : (wb_nm M).name = "<init>") (hw : w q = .inr (ci, fs)) (hc : Nat.blt ci 99 = true) (hlen : Nat.blt fk fs.length = true) (hn : narrow tf (wb_tr G v) = wb_tr G v) (hft : fits tf (wb_tr G v) = true) (kk : wb_V G M nx l st N (va_up w q (.inr (ci, fs.set fk v))) cc cs Q) : wb_V G M pc l (v :: .ref q :: st) N w cc cs Q := by
  intro p e s m args below meth c H locs ls Qe hC hR hl hf hq
  obtain ⟨hd, hs⟩ := wb_opn hC.2.2.2.2.2.2.2.2.2 h
  have hnx : nx = pc + 3 := of_decide_eq_true hs
  subst hnx
  rw [Nat.add_sub_cancel_left] at hd
  obtain ⟨C, T, Nf, ty, hCL, hfk, hlk, hty, hfin, hdecl⟩ := hL
  obtain ⟨h3, hqN, ha⟩ := hR.at hw (by intro q; unfold wb_no at q; cases q; exact absurd hc (by decide))
  have hK := hC.2.2.2.2.2.2.2.2.1.1
  have hown := hC.2.2.2.2.2.2.1
  have hap := va_apart (own := (wb_nm M).cls) hC.2.2.2.2.2.2.2.1 hCL.2.1 ty hCL.2.2.1 hCL.2.2.2.1 hK hCL.1
  obtain ⟨r, h1, cell, q1, q2, q3, q4⟩ := ha
  have hr : r = (C, T, Nf) := Option.some.inj (h1.symm.trans hCL.1)
  subst hr
  obtain ⟨hS, hfc, kC, hkC, hkind⟩ := hK.1 ci _ hCL.1
  obtain ⟨cf, kf, fi, f, hi, hsl⟩ := hS fk hfk
  have hlay := hC.2.2.2.2.2.2.2.1 _ (hCL.2.1 _ (u_in_lay hfk))
  unfold u_lay at hlay
  rw [if_pos hfin] at hlay
  have hst := (u_facts hfc hkC (u_lays hC.2.2.2.2.2.2.2.1 hCL.2.1 hfk) hi).1
  have hcf : m.cls = cf := by
    obtain ⟨_, _, c', _, _, _, -, -, hf', -, -, -, hown2, -⟩ := Cond.laysFinal_spec hlay
    have e1 : c' = cf := by have := hi.symm.trans hf'; simp at this; exact this.1.symm
    rw [hdecl] at hown2
    rw [← e1]; exact Option.some.inj (hown.symm.trans hown2)
  have h6 := u_fits hfc hkC hkind (Or.inr hlay) hi (hCL.2.2.1 fk hfk) (by rw [hty]; exact hn) (by rw [hty]; exact hft)
  refine W.putFinK hC.1 hC.2.1 hown (hC.2.2.2.2.2.2.2.1 _ hlk) hi hst hcf (by rw [hC.2.2.2.2.2.1]; exact hini) (by rw [q2]; exact h6) q1 q3 (by rw [hsl]; exact k2_hasslot (q4 fk hfk)) rfl rfl hd fun H1 e1 e2 e3 => ?_
  rw [hsl] at e1 ⊢
  refine kk p e s m args below meth c H1 _ ls Qe hC (hR.set h3 hqN e2 e3 ?_) hl (fun x hx => ?_) hq
  · refine ⟨_, hCL.1, t_OB.to (V := updV (vp_V (fs.map (wb_tr G))) fk (wb_tr G v)) ⟨_, e1, q2, q3, t_set q4 hap hfk (wb_tr G v)⟩ (fun j _ => ?_)⟩
    rw [List.map_set]
    exact vp_updV_set (by rw [List.length_map]; exact wb_lt hlen) _ j
  · rcases List.mem_append.mp hx with hx | hx
    · exact hf x hx
    · rw [List.mem_singleton.mp hx]
      show wb_gb G ≤ wb_ad G q
      unfold wb_ad
      rw [if_neg (by omega)]
      omega
end WBHEAP
end
section
/-! ===== rows of arrays, of new cells, of statics and of the script ===== -/
section WBARR
variable {G : wb_G} {M : wb_MD} {pc nx tg : Nat} {l : List (Nat × Value)} {st : List Value} {N : Nat} {w : wb_W} {cc cs : Nat} {Q : Option Value → Nat → wb_W → Prop}
theorem wb_adge {G : wb_G} {q : Nat} (h3 : 3 ≤ q) : wb_gb G ≤ wb_ad G q := by
  unfold wb_ad
  rw [if_neg (by omega)]
  omega
theorem wb_locs {G : wb_G} {locs : List Loc} {q k : Nat} (hf : ∀ x ∈ locs, wb_gb G ≤ x.base) (h3 : 3 ≤ q) : ∀ x ∈ locs ++ [⟨wb_ad G q, k⟩], wb_gb G ≤ x.base := by
  intro x hx
  rcases List.mem_append.mp hx with hx | hx
  · exact hf x hx
  · rw [List.mem_singleton.mp hx]
    exact wb_adge h3
theorem wb_narZ {x : Int} (h : x = 0 ∨ x = 1) : narrow .boolean (.int (wb_i x)) = .int (wb_i x) := by rcases h with rfl | rfl <;> rfl
theorem wb_fitZ {x : Int} (h : x = 0 ∨ x = 1) : fits .boolean (.int (wb_i x)) = true := by rcases h with rfl | rfl <;> rfl
theorem wb_narB {x : Int} (h : -128 ≤ x ∧ x ≤ 127) : narrow .byte (.int (wb_i x)) = .int (wb_i x) := by
  show Value.int (wb_i x).toInt8.toInt32 = .int (wb_i x)
  congr 1
  rw [← wb_i8 h.1 h.2]
  simp

theorem vi_iald (k : Nat) {q n : Nat} {g : Int → Int} {i : Int} (h : (wb_op M)[k]? = some (pc, .iaload, nx, tg)) (hw : w q = aI n g) (hi : 0 ≤ i ∧ i < n ∧ i ≤ 2147483647) (kk : wb_V G M nx l (.int (wb_i (g i)) :: st) N w cc cs Q) : wb_V G M pc l (.int (wb_i i) :: .ref q :: st) N w cc cs Q := by
  intro p e s m args below meth c H locs ls Qe hC hR hl hf hq
  obtain ⟨hd, hs⟩ := wb_opn hC.2.2.2.2.2.2.2.2.2 h
  have hnx : nx = pc + 1 := of_decide_eq_true hs
  subst hnx
  rw [Nat.add_sub_cancel_left] at hd
  obtain ⟨-, -, ha⟩ := hR.at hw (by intro q; unfold wb_no aI at q; cases q)
  have K := kk p e s m args below meth c H locs ls Qe hC hR hl hf hq
  have e1 : wb_i (g (((wb_i i).toNatClampNeg : Nat) : Int)) = wb_i (g i) := by rw [wb_i_cl hi.1 hi.2.2]
  refine va_iald hC.1 hC.2.1 hC.2.2.2.2.2.2.2.2.1.1 (wb_one ha) 0 0 rfl rfl (wb_i_in hi.1 hi.2.1 hi.2.2) hd ?_
  (try dsimp only)
  rw [e1]
  exact K
theorem vi_iast (k : Nat) {q n : Nat} {g : Int → Int} {i x : Int} (h : (wb_op M)[k]? = some (pc, .iastore, nx, tg)) (hw : w q = aI n g) (hi : 0 ≤ i ∧ i < n ∧ i ≤ 2147483647) (kk : wb_V G M nx l st N (va_up w q (aI n (wb_u g i x))) cc cs Q) : wb_V G M pc l (.int (wb_i x) :: .int (wb_i i) :: .ref q :: st) N w cc cs Q := by
  intro p e s m args below meth c H locs ls Qe hC hR hl hf hq
  obtain ⟨hd, hs⟩ := wb_opn hC.2.2.2.2.2.2.2.2.2 h
  have hnx : nx = pc + 1 := of_decide_eq_true hs
  subst hnx
  rw [Nat.add_sub_cancel_left] at hd
  obtain ⟨h3, hqN, ha⟩ := hR.at hw (by intro q; unfold wb_no aI at q; cases q)
  have ecl := wb_i_cl hi.1 hi.2.2
  refine W.iast hC.1 hC.2.1 ha ((hC.2.2.2.2.2.2.2.2.1.1.2 0 _ rfl).1 n (fun j => .int (wb_i (g j)))) (fun q => by cases q) (by show ¬ (_ < 0 ∨ (arrV _ _ _).slots.size ≤ _); rw [arrV_size]; exact wb_i_in hi.1 hi.2.1 hi.2.2) rfl rfl hd fun H1 e1 z oq => ?_
  refine kk p e s m args below meth c H1 _ ls Qe hC (hR.set h3 hqN z oq ?_) hl (wb_locs hf h3) hq
  show H1[wb_ad G q]? = some (vp_cell _ _)
  rw [e1, show wb_tA G (n, Sum.inl fun j : Nat => wb_i (g j)) = (n, Sum.inl fun j : Nat => wb_i (g j)) from rfl, show wb_tA G (n, Sum.inl fun j : Nat => wb_i (wb_u g i x j)) = (n, Sum.inl fun j : Nat => wb_i (wb_u g i x j)) from rfl, vp_cell_i, vp_cell_i, arrV_store]
  congr 2
  funext j
  by_cases hj : j = (wb_i i).toNatClampNeg
  · subst hj
    simp [updV, wb_u, ecl]
  · have : ¬ (j : Int) = i := by omega
    simp [updV, wb_u, hj, this]
theorem vi_zald (k : Nat) {q n : Nat} {g : Int → Int} {i : Int} (h : (wb_op M)[k]? = some (pc, .baload, nx, tg)) (hw : w q = aZ n g) (hi : 0 ≤ i ∧ i < n ∧ i ≤ 2147483647) (kk : wb_V G M nx l (.int (wb_i (g i)) :: st) N w cc cs Q) : wb_V G M pc l (.int (wb_i i) :: .ref q :: st) N w cc cs Q := by
  intro p e s m args below meth c H locs ls Qe hC hR hl hf hq
  obtain ⟨hd, hs⟩ := wb_opn hC.2.2.2.2.2.2.2.2.2 h
  have hnx : nx = pc + 1 := of_decide_eq_true hs
  subst hnx
  rw [Nat.add_sub_cancel_left] at hd
  obtain ⟨-, -, ha⟩ := hR.at hw (by intro q; unfold wb_no aZ at q; cases q)
  have K := kk p e s m args below meth c H locs ls Qe hC hR hl hf hq
  have e1 : wb_i (g (((wb_i i).toNatClampNeg : Nat) : Int)) = wb_i (g i) := by rw [wb_i_cl hi.1 hi.2.2]
  refine va_zald hC.1 hC.2.1 hC.2.2.2.2.2.2.2.2.1.1 (wb_one ha) 0 2 rfl rfl (wb_i_in hi.1 hi.2.1 hi.2.2) hd ?_
  (try dsimp only)
  rw [e1]
  exact K
theorem vi_zast (k : Nat) {q n : Nat} {g : Int → Int} {i x : Int} (h : (wb_op M)[k]? = some (pc, .bastore, nx, tg)) (hw : w q = aZ n g) (hi : 0 ≤ i ∧ i < n ∧ i ≤ 2147483647) (hx : x = 0 ∨ x = 1) (kk : wb_V G M nx l st N (va_up w q (aZ n (wb_u g i x))) cc cs Q) : wb_V G M pc l (.int (wb_i x) :: .int (wb_i i) :: .ref q :: st) N w cc cs Q := by
  intro p e s m args below meth c H locs ls Qe hC hR hl hf hq
  obtain ⟨hd, hs⟩ := wb_opn hC.2.2.2.2.2.2.2.2.2 h
  have hnx : nx = pc + 1 := of_decide_eq_true hs
  subst hnx
  rw [Nat.add_sub_cancel_left] at hd
  obtain ⟨h3, hqN, ha⟩ := hR.at hw (by intro q; unfold wb_no aZ at q; cases q)
  have ecl := wb_i_cl hi.1 hi.2.2
  refine W.zast hC.1 hC.2.1 ha ((hC.2.2.2.2.2.2.2.2.1.1.2 2 _ rfl).1 n (fun j => .int (wb_i (g j)))) (fun q => by cases q) (by show ¬ (_ < 0 ∨ (arrV _ _ _).slots.size ≤ _); rw [arrV_size]; exact wb_i_in hi.1 hi.2.1 hi.2.2) rfl rfl hd fun H1 e1 z oq => ?_
  refine kk p e s m args below meth c H1 _ ls Qe hC (hR.set h3 hqN z oq ?_) hl (wb_locs hf h3) hq
  show H1[wb_ad G q]? = some (vp_cell _ _)
  rw [e1, wb_narZ hx, show wb_tA G (n, Sum.inl fun j : Nat => wb_i (g j)) = (n, Sum.inl fun j : Nat => wb_i (g j)) from rfl, show wb_tA G (n, Sum.inl fun j : Nat => wb_i (wb_u g i x j)) = (n, Sum.inl fun j : Nat => wb_i (wb_u g i x j)) from rfl, vp_cell_i, vp_cell_i, arrV_store]
  congr 2
  funext j
  by_cases hj : j = (wb_i i).toNatClampNeg
  · subst hj
    simp [updV, wb_u, ecl]
  · have : ¬ (j : Int) = i := by omega
    simp [updV, wb_u, hj, this]
theorem vi_bald (k : Nat) {q n : Nat} {g : Int → Int} {i : Int} (h : (wb_op M)[k]? = some (pc, .baload, nx, tg)) (hw : w q = aB n g) (hi : 0 ≤ i ∧ i < n ∧ i ≤ 2147483647) (kk : wb_V G M nx l (.int (wb_i (g i)) :: st) N w cc cs Q) : wb_V G M pc l (.int (wb_i i) :: .ref q :: st) N w cc cs Q := by
  intro p e s m args below meth c H locs ls Qe hC hR hl hf hq
  obtain ⟨hd, hs⟩ := wb_opn hC.2.2.2.2.2.2.2.2.2 h
  have hnx : nx = pc + 1 := of_decide_eq_true hs
  subst hnx
  rw [Nat.add_sub_cancel_left] at hd
  obtain ⟨-, -, ha⟩ := hR.at hw (by intro q; unfold wb_no aB at q; cases q)
  have K := kk p e s m args below meth c H locs ls Qe hC hR hl hf hq
  have e1 : wb_i (g (((wb_i i).toNatClampNeg : Nat) : Int)) = wb_i (g i) := by rw [wb_i_cl hi.1 hi.2.2]
  refine va_bald hC.1 hC.2.1 hC.2.2.2.2.2.2.2.2.1.1 (wb_one ha) 0 3 rfl rfl (wb_i_in hi.1 hi.2.1 hi.2.2) hd ?_
  (try dsimp only)
  rw [e1]
  exact K
theorem vi_bast (k : Nat) {q n : Nat} {g : Int → Int} {i x : Int} (h : (wb_op M)[k]? = some (pc, .bastore, nx, tg)) (hw : w q = aB n g) (hi : 0 ≤ i ∧ i < n ∧ i ≤ 2147483647) (hx : -128 ≤ x ∧ x ≤ 127) (kk : wb_V G M nx l st N (va_up w q (aB n (wb_u g i x))) cc cs Q) : wb_V G M pc l (.int (wb_i x) :: .int (wb_i i) :: .ref q :: st) N w cc cs Q := by
  intro p e s m args below meth c H locs ls Qe hC hR hl hf hq
  obtain ⟨hd, hs⟩ := wb_opn hC.2.2.2.2.2.2.2.2.2 h
  have hnx : nx = pc + 1 := of_decide_eq_true hs
  subst hnx
  rw [Nat.add_sub_cancel_left] at hd
  obtain ⟨h3, hqN, ha⟩ := hR.at hw (by intro q; unfold wb_no aB at q; cases q)
  have ecl := wb_i_cl hi.1 hi.2.2
  refine W.bast hC.1 hC.2.1 ha ((hC.2.2.2.2.2.2.2.2.1.1.2 3 _ rfl).1 n (fun j => .int (wb_i (g j)))) (fun q => by cases q) (by show ¬ (_ < 0 ∨ (arrV _ _ _).slots.size ≤ _); rw [arrV_size]; exact wb_i_in hi.1 hi.2.1 hi.2.2) rfl rfl hd fun H1 e1 z oq => ?_
  refine kk p e s m args below meth c H1 _ ls Qe hC (hR.set h3 hqN z oq ?_) hl (wb_locs hf h3) hq
  show H1[wb_ad G q]? = some (vp_cell _ _)
  rw [e1, wb_narB hx, show wb_tA G (n, Sum.inl fun j : Nat => wb_i (g j)) = (n, Sum.inl fun j : Nat => wb_i (g j)) from rfl, show wb_tA G (n, Sum.inl fun j : Nat => wb_i (wb_u g i x j)) = (n, Sum.inl fun j : Nat => wb_i (wb_u g i x j)) from rfl, vp_cell_i, vp_cell_i, arrV_store]
  congr 2
  funext j
  by_cases hj : j = (wb_i i).toNatClampNeg
  · subst hj
    simp [updV, wb_u, ecl]
  · have : ¬ (j : Int) = i := by omega
    simp [updV, wb_u, hj, this]
theorem vi_lald (k : Nat) {q n : Nat} {g : Int → Int64} {i : Int} (h : (wb_op M)[k]? = some (pc, .laload, nx, tg)) (hw : w q = aL n g) (hi : 0 ≤ i ∧ i < n ∧ i ≤ 2147483647) (kk : wb_V G M nx l (.long (g i) :: st) N w cc cs Q) : wb_V G M pc l (.int (wb_i i) :: .ref q :: st) N w cc cs Q := by
  intro p e s m args below meth c H locs ls Qe hC hR hl hf hq
  obtain ⟨hd, hs⟩ := wb_opn hC.2.2.2.2.2.2.2.2.2 h
  have hnx : nx = pc + 1 := of_decide_eq_true hs
  subst hnx
  rw [Nat.add_sub_cancel_left] at hd
  obtain ⟨-, -, ha⟩ := hR.at hw (by intro q; unfold wb_no aL at q; cases q)
  have K := kk p e s m args below meth c H locs ls Qe hC hR hl hf hq
  have e1 : g (((wb_i i).toNatClampNeg : Nat) : Int) = g i := by rw [wb_i_cl hi.1 hi.2.2]
  refine va_lald hC.1 hC.2.1 hC.2.2.2.2.2.2.2.2.1.1 (wb_one ha) 0 1 rfl rfl (wb_i_in hi.1 hi.2.1 hi.2.2) hd ?_
  (try dsimp only)
  rw [e1]
  exact K
theorem vi_last (k : Nat) {q n : Nat} {g : Int → Int64} {i : Int} {x : Int64} (h : (wb_op M)[k]? = some (pc, .lastore, nx, tg)) (hw : w q = aL n g) (hi : 0 ≤ i ∧ i < n ∧ i ≤ 2147483647) (kk : wb_V G M nx l st N (va_up w q (aL n (wb_u g i x))) cc cs Q) : wb_V G M pc l (.long x :: .int (wb_i i) :: .ref q :: st) N w cc cs Q := by
  intro p e s m args below meth c H locs ls Qe hC hR hl hf hq
  obtain ⟨hd, hs⟩ := wb_opn hC.2.2.2.2.2.2.2.2.2 h
  have hnx : nx = pc + 1 := of_decide_eq_true hs
  subst hnx
  rw [Nat.add_sub_cancel_left] at hd
  obtain ⟨h3, hqN, ha⟩ := hR.at hw (by intro q; unfold wb_no aL at q; cases q)
  have ecl := wb_i_cl hi.1 hi.2.2
  refine W.last hC.1 hC.2.1 ha ((hC.2.2.2.2.2.2.2.2.1.1.2 1 _ rfl).1 n (fun j => .long (g j))) (fun q => by cases q) (by show ¬ (_ < 0 ∨ (arrV _ _ _).slots.size ≤ _); rw [arrV_size]; exact wb_i_in hi.1 hi.2.1 hi.2.2) rfl rfl hd fun H1 e1 z oq => ?_
  refine kk p e s m args below meth c H1 _ ls Qe hC (hR.set h3 hqN z oq ?_) hl (wb_locs hf h3) hq
  show H1[wb_ad G q]? = some (vp_cell _ _)
  rw [e1, show wb_tA G (n, Sum.inr (Sum.inl fun j : Nat => g j)) = (n, Sum.inr (Sum.inl fun j : Nat => g j)) from rfl, show wb_tA G (n, Sum.inr (Sum.inl fun j : Nat => wb_u g i x j)) = (n, Sum.inr (Sum.inl fun j : Nat => wb_u g i x j)) from rfl, vp_cell_l, vp_cell_l, arrV_store]
  congr 2
  funext j
  by_cases hj : j = (wb_i i).toNatClampNeg
  · subst hj
    simp [updV, wb_u, ecl]
  · have : ¬ (j : Int) = i := by omega
    simp [updV, wb_u, hj, this]
theorem vi_alen (k : Nat) {q t n : Nat} {b : (Nat → Int32) ⊕ (Nat → Int64) ⊕ (Nat → UInt32) ⊕ (Nat → UInt64) ⊕ (Nat → Option Nat)} (h : (wb_op M)[k]? = some (pc, .arraylength, nx, tg)) (hw : w q = .inl (t, n, b)) (ht : Nat.blt t 6 = true) (kk : wb_V G M nx l (.int (wb_i n) :: st) N w cc cs Q) : wb_V G M pc l (.ref q :: st) N w cc cs Q := by
  intro p e s m args below meth c H locs ls Qe hC hR hl hf hq
  obtain ⟨hd, hs⟩ := wb_opn hC.2.2.2.2.2.2.2.2.2 h
  have hnx : nx = pc + 1 := of_decide_eq_true hs
  subst hnx
  rw [Nat.add_sub_cancel_left] at hd
  obtain ⟨-, -, ha⟩ := hR.at hw (by intro q; unfold wb_no at q; cases q)
  have K := kk p e s m args below meth c H locs ls Qe hC hR hl hf hq
  obtain ⟨ty, hty⟩ : ∃ ty, (wb_ty G)[t]? = some (wb_gc G t, ty) := by
    have := wb_lt ht
    rcases (show t = 0 ∨ t = 1 ∨ t = 2 ∨ t = 3 ∨ t = 4 ∨ t = 5 by omega) with rfl | rfl | rfl | rfl | rfl | rfl <;> exact ⟨_, rfl⟩
  have hlen : (wb_tA G (n, b)).1 = n := by unfold wb_tA; split <;> simp_all
  refine va_alen (tys := wb_ty G) hC.1 hC.2.1 hC.2.2.2.2.2.2.2.2.1.1 (wb_one ha) 0 t rfl hty (v := wb_i n) ?_ hd K
  rw [hlen, wb_i_nat]
  rfl
/-- the arrays that lie below the base: the script, STOCK_MOST, CELL_MOST -/
theorem vi_xald (k : Nat) {q : Nat} {i : Int} (h : (wb_op M)[k]? = some (pc, .iaload, nx, tg)) (hq3 : Nat.blt q 3 = true) (hi : 0 ≤ i ∧ i < wb_xL G q ∧ i ≤ 2147483647) (kk : wb_V G M nx l (.int (wb_xF G q i.toNat) :: st) N w cc cs Q) : wb_V G M pc l (.int (wb_i i) :: .ref q :: st) N w cc cs Q := by
  intro p e s m args below meth c H locs ls Qe hC hR hl hf hq
  obtain ⟨hd, hs⟩ := wb_opn hC.2.2.2.2.2.2.2.2.2 h
  have hnx : nx = pc + 1 := of_decide_eq_true hs
  subst hnx
  rw [Nat.add_sub_cancel_left] at hd
  obtain ⟨scr, h1, h2, h3, h4, h5, h6⟩ := (hR.2.2.2.1 q (wb_lt hq3)).2
  have K := kk p e s m args below meth c H locs ls Qe hC hR hl hf hq
  have ecl := wb_i_cl hi.1 hi.2.2
  have ecn : (wb_i i).toNatClampNeg = i.toNat := by omega
  have had : wb_ad G q = wb_gx G q := by unfold wb_ad; rw [if_pos (wb_lt hq3)]
  refine W.iald (a := wb_ad G q) (cell := scr) (v := .int (wb_xF G q i.toNat)) hC.1 hC.2.1 (by rw [had]; exact h1) h2 h3 (fun z => wb_i_in hi.1 hi.2.1 hi.2.2 (z.elim Or.inl (fun q => Or.inr (Nat.le_trans h4 q)))) (by rw [ecn]; exact h6 _ (by omega)) rfl rfl hd K
theorem vi_xlen (k : Nat) {q : Nat} (h : (wb_op M)[k]? = some (pc, .arraylength, nx, tg)) (hq3 : Nat.blt q 3 = true) (kk : wb_V G M nx l (.int (wb_i (wb_xL G q)) :: st) N w cc cs Q) : wb_V G M pc l (.ref q :: st) N w cc cs Q := by
  intro p e s m args below meth c H locs ls Qe hC hR hl hf hq
  obtain ⟨hd, hs⟩ := wb_opn hC.2.2.2.2.2.2.2.2.2 h
  have hnx : nx = pc + 1 := of_decide_eq_true hs
  subst hnx
  rw [Nat.add_sub_cancel_left] at hd
  obtain ⟨scr, h1, h2, h3, h4, h5, h6⟩ := (hR.2.2.2.1 q (wb_lt hq3)).2
  have K := kk p e s m args below meth c H locs ls Qe hC hR hl hf hq
  have had : wb_ad G q = wb_gx G q := by unfold wb_ad; rw [if_pos (wb_lt hq3)]
  refine W.alen (a := wb_ad G q) (cell := scr) (n := wb_i (wb_xL G q)) hC.1 hC.2.1 (by rw [had]; exact h1) h2 (by rw [h5, wb_i_nat]; rfl) rfl rfl hd K
theorem vi_gets (k : Nat) {idx q : Nat} {nm : String} (h : (wb_op M)[k]? = some (pc, .getstatic idx, nx, tg)) (hL : wb_fl (wb_nm M).cls idx RX11 nm "[I") (hx : (nm = "STOCK_MOST" ∧ q = 1) ∨ (nm = "CELL_MOST" ∧ q = 2)) (kk : wb_V G M nx l (.ref q :: st) N w cc cs Q) : wb_V G M pc l st N w cc cs Q := by
  intro p e s m args below meth c H locs ls Qe hC hR hl hf hq
  obtain ⟨hd, hs⟩ := wb_opn hC.2.2.2.2.2.2.2.2.2 h
  have hnx : nx = pc + 3 := of_decide_eq_true hs
  subst hnx
  rw [Nat.add_sub_cancel_left] at hd
  have K := kk p e s m args below meth c H locs ls Qe hC hR hl hf hq
  have hZ : va_Z RX11 nm "[I" (.ref (wb_gx G q)) (fun q => wb_gb G ≤ q) s H := by
    rcases hx with ⟨rfl, rfl⟩ | ⟨rfl, rfl⟩
    · exact hR.2.2.2.2.1
    · exact hR.2.2.2.2.2.1
  have had : wb_tr G (.ref q) = .ref (wb_gx G q) := by
    have : q < 3 := by rcases hx with ⟨-, rfl⟩ | ⟨-, rfl⟩ <;> omega
    unfold wb_tr wb_ad
    simp [this]
  rw [List.map_cons, had] at K
  obtain ⟨cf, kf, fi, f, a, cell, h1, h2, h3, h4, h5, h6, h7, h8⟩ := hZ
  rcases hL with hlk | ⟨host, hlk⟩
  · exact W.gets hC.1 hC.2.1 hC.2.2.2.2.2.2.1 (hC.2.2.2.2.2.2.2.1 _ hlk) h1 h2 h3 h4 h5 (fun e => by rw [e] at h6; cases h6) h7 rfl hd K
  · exact va_WgetsN hC.1 hC.2.1 hC.2.2.2.2.2.2.1 (va_Nw.use rfl (hC.2.2.2.2.2.2.2.2.1.2.1 _ hlk)) h1 h2 h3 h4 h5 (fun e => by rw [e] at h6; cases h6) h7 rfl hd K
theorem vi_new (k : Nat) {idx ci : Nat} {fs : List Value} (h : (wb_op M)[k]? = some (pc, .new idx, nx, tg)) (hL : wb_LN (wb_nm M).cls idx ci fs) (hnr : fs.map (wb_tr G) = fs) (h1 : Nat.ble (cc + 1) (wb_rm M).cells = true) (h2 : Nat.ble (cs + fs.length) (wb_rm M).slots = true) (kk : wb_V G M nx l (.ref N :: st) (N + 1) (va_up w N (.inr (ci, fs))) (cc + 1) (cs + fs.length) Q) : wb_V G M pc l st N w cc cs Q := by
  intro p e s m args below meth c H locs ls Qe hC hR hl hf hq
  obtain ⟨hd, hs⟩ := wb_opn hC.2.2.2.2.2.2.2.2.2 h
  have hnx : nx = pc + 3 := of_decide_eq_true hs
  subst hnx
  rw [Nat.add_sub_cancel_left] at hd
  obtain ⟨C, T, ty, hCL, hcl, hfs⟩ := hL
  have hK := hC.2.2.2.2.2.2.2.2.1.1
  have hts := hC.2.2.2.2.2.2.2.1
  have hKn := hK.1 ci _ hCL.1
  refine W.newcK hC.1 hC.2.1 hC.2.2.2.2.2.2.1 (hts _ hcl) (hts _ hCL.2.2.2.2.1) (hts _ hCL.2.2.2.2.2) rfl hd (Nat.le_of_ble_eq_true h1) (Nat.le_of_ble_eq_true h2) hKn.2.1 rfl fun H1 kC hkC e1 z1 o1 => ?_
  have hadN : wb_ad G N = H.size := by unfold wb_ad; rw [if_neg (by have := hR.1; omega), hR.2.1]
  have K := kk p e s m args below meth c H1 locs ls Qe hC (hR.push z1 o1 ⟨_, hCL.1, by rw [hnr]; exact (u_born ty hts hCL.2.1 hKn hkC e1 hCL.2.2.1).to hfs⟩) hl hf hq
  rw [List.map_cons, show wb_tr G (.ref N) = .ref H.size from congrArg Value.ref hadN] at K
  exact K

theorem vi_newaI (k : Nat) {i : Int} (n : Nat) (h : (wb_op M)[k]? = some (pc, .newarray .int, nx, tg)) (hL : Cond.arrayClass .int ∈ wb_GW) (hn : i = n) (hn2 : n ≤ 65536) (h1 : Nat.ble (cc + 1) (wb_rm M).cells = true) (h2 : Nat.ble (cs + n) (wb_rm M).slots = true) (kk : wb_V G M nx l (.ref N :: st) (N + 1) (va_up w N (aI n (fun _ => 0))) (cc + 1) (cs + n) Q) : wb_V G M pc l (.int (wb_i i) :: st) N w cc cs Q := by
  intro p e s m args below meth c H locs ls Qe hC hR hl hf hq
  obtain ⟨hd, hs⟩ := wb_opn hC.2.2.2.2.2.2.2.2.2 h
  have hnx : nx = pc + 2 := of_decide_eq_true hs
  subst hnx
  rw [Nat.add_sub_cancel_left] at hd
  subst hn
  have ecl := wb_i_cl (a := (n : Int)) (by omega) (by omega)
  have hK := hC.2.2.2.2.2.2.2.2.1.1
  refine va_newaK (atype := .int) hC.1 hC.2.1 (hC.2.2.2.2.2.2.2.1 _ hL) rfl hd rfl (N := n) (by rw [show (0 : Int32) = wb_i 0 from rfl, wb_i_lt (by omega) (by omega)]; omega) (by omega) (by show n * _ ≤ _; simp only [newarray.typeOf, componentBytes]; omega) (Nat.le_of_ble_eq_true h1) (Nat.le_of_ble_eq_true h2) rfl fun H1 cA e1 z1 o1 hAr hNm => ?_
  have hcA : cA = wb_gc G 0 := Option.some.inj (hNm.symm.trans (hK.2 0 _ rfl).2)
  subst hcA
  have hadN : wb_ad G N = H.size := by unfold wb_ad; rw [if_neg (by have := hR.1; omega), hR.2.1]
  have K := kk p e s m args below meth c H1 locs ls Qe hC (hR.push z1 o1 (by show H1[H.size]? = some (vp_cell _ _); exact e1)) hl hf hq
  rw [List.map_cons, show wb_tr G (.ref N) = .ref H.size from congrArg Value.ref hadN] at K
  exact K
theorem vi_newaZ (k : Nat) {i : Int} (n : Nat) (h : (wb_op M)[k]? = some (pc, .newarray .boolean, nx, tg)) (hL : Cond.arrayClass .boolean ∈ wb_GW) (hn : i = n) (hn2 : n ≤ 65536) (h1 : Nat.ble (cc + 1) (wb_rm M).cells = true) (h2 : Nat.ble (cs + n) (wb_rm M).slots = true) (kk : wb_V G M nx l (.ref N :: st) (N + 1) (va_up w N (aZ n (fun _ => 0))) (cc + 1) (cs + n) Q) : wb_V G M pc l (.int (wb_i i) :: st) N w cc cs Q := by
  intro p e s m args below meth c H locs ls Qe hC hR hl hf hq
  obtain ⟨hd, hs⟩ := wb_opn hC.2.2.2.2.2.2.2.2.2 h
  have hnx : nx = pc + 2 := of_decide_eq_true hs
  subst hnx
  rw [Nat.add_sub_cancel_left] at hd
  subst hn
  have ecl := wb_i_cl (a := (n : Int)) (by omega) (by omega)
  have hK := hC.2.2.2.2.2.2.2.2.1.1
  refine va_newaK (atype := .boolean) hC.1 hC.2.1 (hC.2.2.2.2.2.2.2.1 _ hL) rfl hd rfl (N := n) (by rw [show (0 : Int32) = wb_i 0 from rfl, wb_i_lt (by omega) (by omega)]; omega) (by omega) (by show n * _ ≤ _; simp only [newarray.typeOf, componentBytes]; omega) (Nat.le_of_ble_eq_true h1) (Nat.le_of_ble_eq_true h2) rfl fun H1 cA e1 z1 o1 hAr hNm => ?_
  have hcA : cA = wb_gc G 2 := Option.some.inj (hNm.symm.trans (hK.2 2 _ rfl).2)
  subst hcA
  have hadN : wb_ad G N = H.size := by unfold wb_ad; rw [if_neg (by have := hR.1; omega), hR.2.1]
  have K := kk p e s m args below meth c H1 locs ls Qe hC (hR.push z1 o1 (by show H1[H.size]? = some (vp_cell _ _); exact e1)) hl hf hq
  rw [List.map_cons, show wb_tr G (.ref N) = .ref H.size from congrArg Value.ref hadN] at K
  exact K
theorem vi_newaB (k : Nat) {i : Int} (n : Nat) (h : (wb_op M)[k]? = some (pc, .newarray .byte, nx, tg)) (hL : Cond.arrayClass .byte ∈ wb_GW) (hn : i = n) (hn2 : n ≤ 65536) (h1 : Nat.ble (cc + 1) (wb_rm M).cells = true) (h2 : Nat.ble (cs + n) (wb_rm M).slots = true) (kk : wb_V G M nx l (.ref N :: st) (N + 1) (va_up w N (aB n (fun _ => 0))) (cc + 1) (cs + n) Q) : wb_V G M pc l (.int (wb_i i) :: st) N w cc cs Q := by
  intro p e s m args below meth c H locs ls Qe hC hR hl hf hq
  obtain ⟨hd, hs⟩ := wb_opn hC.2.2.2.2.2.2.2.2.2 h
  have hnx : nx = pc + 2 := of_decide_eq_true hs
  subst hnx
  rw [Nat.add_sub_cancel_left] at hd
  subst hn
  have ecl := wb_i_cl (a := (n : Int)) (by omega) (by omega)
  have hK := hC.2.2.2.2.2.2.2.2.1.1
  refine va_newaK (atype := .byte) hC.1 hC.2.1 (hC.2.2.2.2.2.2.2.1 _ hL) rfl hd rfl (N := n) (by rw [show (0 : Int32) = wb_i 0 from rfl, wb_i_lt (by omega) (by omega)]; omega) (by omega) (by show n * _ ≤ _; simp only [newarray.typeOf, componentBytes]; omega) (Nat.le_of_ble_eq_true h1) (Nat.le_of_ble_eq_true h2) rfl fun H1 cA e1 z1 o1 hAr hNm => ?_
  have hcA : cA = wb_gc G 3 := Option.some.inj (hNm.symm.trans (hK.2 3 _ rfl).2)
  subst hcA
  have hadN : wb_ad G N = H.size := by unfold wb_ad; rw [if_neg (by have := hR.1; omega), hR.2.1]
  have K := kk p e s m args below meth c H1 locs ls Qe hC (hR.push z1 o1 (by show H1[H.size]? = some (vp_cell _ _); exact e1)) hl hf hq
  rw [List.map_cons, show wb_tr G (.ref N) = .ref H.size from congrArg Value.ref hadN] at K
  exact K
theorem vi_newaL (k : Nat) {i : Int} (n : Nat) (h : (wb_op M)[k]? = some (pc, .newarray .long, nx, tg)) (hL : Cond.arrayClass .long ∈ wb_GW) (hn : i = n) (hn2 : n ≤ 65536) (h1 : Nat.ble (cc + 1) (wb_rm M).cells = true) (h2 : Nat.ble (cs + n) (wb_rm M).slots = true) (kk : wb_V G M nx l (.ref N :: st) (N + 1) (va_up w N (aL n (fun _ => 0))) (cc + 1) (cs + n) Q) : wb_V G M pc l (.int (wb_i i) :: st) N w cc cs Q := by
  intro p e s m args below meth c H locs ls Qe hC hR hl hf hq
  obtain ⟨hd, hs⟩ := wb_opn hC.2.2.2.2.2.2.2.2.2 h
  have hnx : nx = pc + 2 := of_decide_eq_true hs
  subst hnx
  rw [Nat.add_sub_cancel_left] at hd
  subst hn
  have ecl := wb_i_cl (a := (n : Int)) (by omega) (by omega)
  have hK := hC.2.2.2.2.2.2.2.2.1.1
  refine va_newaK (atype := .long) hC.1 hC.2.1 (hC.2.2.2.2.2.2.2.1 _ hL) rfl hd rfl (N := n) (by rw [show (0 : Int32) = wb_i 0 from rfl, wb_i_lt (by omega) (by omega)]; omega) (by omega) (by show n * _ ≤ _; simp only [newarray.typeOf, componentBytes]; omega) (Nat.le_of_ble_eq_true h1) (Nat.le_of_ble_eq_true h2) rfl fun H1 cA e1 z1 o1 hAr hNm => ?_
  have hcA : cA = wb_gc G 1 := Option.some.inj (hNm.symm.trans (hK.2 1 _ rfl).2)
  subst hcA
  have hadN : wb_ad G N = H.size := by unfold wb_ad; rw [if_neg (by have := hR.1; omega), hR.2.1]
  have K := kk p e s m args below meth c H1 locs ls Qe hC (hR.push z1 o1 (by show H1[H.size]? = some (vp_cell _ _); exact e1)) hl hf hq
  rw [List.map_cons, show wb_tr G (.ref N) = .ref H.size from congrArg Value.ref hadN] at K
  exact K
theorem vi_anew (k : Nat) {idx t : Nat} {i : Int} {C : String} (n : Nat) (h : (wb_op M)[k]? = some (pc, .anewarray idx, nx, tg)) (hL : Cond.classLink (wb_nm M).cls idx C ∈ wb_GW) (ht : (t = 4 ∧ C = RX0) ∨ (t = 5 ∧ C = RX2)) (hn : i = n) (hn2 : n ≤ 65536) (h1 : Nat.ble (cc + 1) (wb_rm M).cells = true) (h2 : Nat.ble (cs + n) (wb_rm M).slots = true) (kk : wb_V G M nx l (.ref N :: st) (N + 1) (va_up w N (aQ t n (fun _ => none))) (cc + 1) (cs + n) Q) : wb_V G M pc l (.int (wb_i i) :: st) N w cc cs Q := by
  intro p e s m args below meth c H locs ls Qe hC hR hl hf hq
  obtain ⟨hd, hs⟩ := wb_opn hC.2.2.2.2.2.2.2.2.2 h
  have hnx : nx = pc + 3 := of_decide_eq_true hs
  subst hnx
  rw [Nat.add_sub_cancel_left] at hd
  subst hn
  have ecl := wb_i_cl (a := (n : Int)) (by omega) (by omega)
  have ecn : (wb_i (n : Int)).toNatClampNeg = n := by omega
  have hK := hC.2.2.2.2.2.2.2.2.1.1
  have hAO : va_AO C s := by
    rcases ht with ⟨-, rfl⟩ | ⟨-, rfl⟩
    · exact hC.2.2.2.2.2.2.2.2.1.2.2.1
    · exact hC.2.2.2.2.2.2.2.2.1.2.2.2
  have hRA : s.vm.findClass ("[" ++ (FieldType.object C).toString) = some (wb_gc G t) := by
    rcases ht with ⟨rfl, rfl⟩ | ⟨rfl, rfl⟩
    · obtain ⟨_, _, _, _, _, h⟩ := (hK.2 4 _ rfl).2
      exact h
    · obtain ⟨_, _, _, _, _, h⟩ := (hK.2 5 _ rfl).2
      exact h
  refine W.anew hC.1 hC.2.1 hC.2.2.2.2.2.2.1 (hC.2.2.2.2.2.2.2.1 _ hL) (va_AO.use hAO) rfl hd rfl (by rw [show (0 : Int32) = wb_i 0 from rfl, wb_i_lt (by omega) (by omega)]; omega) (by omega) (Nat.le_of_ble_eq_true h1) (by rw [ecn]; exact Nat.le_of_ble_eq_true h2) fun cA kA comp f1 f2 f3 f4 => ?_
  have hcA : cA = wb_gc G t := Option.some.inj (f1.symm.trans hRA)
  subst hcA
  rw [ecn]
  have hadN : wb_ad G N = H.size := by unfold wb_ad; rw [if_neg (by have := hR.1; omega), hR.2.1]
  have K := kk p e s m args below meth c (H.push ({ cls := wb_gc G t, slots := Array.replicate n .null, vm := .none } : Cell)) locs ls Qe hC (hR.push (by rw [Array.size_push]) (fun q hq => by rw [Array.getElem?_push, if_neg (Nat.ne_of_lt hq)]) (by show (H.push _)[H.size]? = some (vp_cell _ _); rw [Array.getElem?_push_size, arrV_new]; rfl)) hl hf hq
  rw [List.map_cons, show wb_tr G (.ref N) = .ref H.size from congrArg Value.ref hadN] at K
  exact K
theorem vi_aald (k : Nat) {q t n r : Nat} {g : Nat → Option Nat} {i : Int} (h : (wb_op M)[k]? = some (pc, .aaload, nx, tg)) (hw : w q = aQ t n g) (ht : t = 4 ∨ t = 5) (hi : 0 ≤ i ∧ i < n ∧ i ≤ 2147483647) (hg : g i.toNat = some r) (kk : wb_V G M nx l (.ref r :: st) N w cc cs Q) : wb_V G M pc l (.int (wb_i i) :: .ref q :: st) N w cc cs Q := by
  intro p e s m args below meth c H locs ls Qe hC hR hl hf hq
  obtain ⟨hd, hs⟩ := wb_opn hC.2.2.2.2.2.2.2.2.2 h
  have hnx : nx = pc + 1 := of_decide_eq_true hs
  subst hnx
  rw [Nat.add_sub_cancel_left] at hd
  obtain ⟨-, -, ha⟩ := hR.at hw (by intro q; unfold wb_no aQ at q; cases q)
  have K := kk p e s m args below meth c H locs ls Qe hC hR hl hf hq
  have ecl := wb_i_cl hi.1 hi.2.2
  have ecn : (wb_i i).toNatClampNeg = i.toNat := by omega
  have e2 : va_rf ((g (wb_i i).toNatClampNeg).map (wb_ad G)) = .ref (wb_ad G r) := by rw [ecn, hg]; rfl
  obtain ⟨C, hC2⟩ : ∃ C, (wb_ty G)[t]? = some (wb_gc G t, .object C) := by rcases ht with rfl | rfl <;> exact ⟨_, rfl⟩
  refine va_aldq (tys := wb_ty G) hC.1 hC.2.1 hC.2.2.2.2.2.2.2.2.1.1 (wb_one ha) 0 t rfl hC2 (wb_i_in hi.1 hi.2.1 hi.2.2) hd ?_
  (try dsimp only)
  rw [e2]
  exact K
theorem vi_aast (k : Nat) {q t n r ci : Nat} {g : Nat → Option Nat} {i : Int} {fs : List Value} (h : (wb_op M)[k]? = some (pc, .aastore, nx, tg)) (hw : w q = aQ t n g) (ht : (t = 4 ∧ ci = 0) ∨ (t = 5 ∧ ci = 2)) (hr : w r = .inr (ci, fs)) (hi : 0 ≤ i ∧ i < n ∧ i ≤ 2147483647) (kk : wb_V G M nx l st N (va_up w q (aQ t n (va_up g i.toNat (some r)))) cc cs Q) : wb_V G M pc l (.ref r :: .int (wb_i i) :: .ref q :: st) N w cc cs Q := by
  intro p e s m args below meth c H locs ls Qe hC hR hl hf hq
  obtain ⟨hd, hs⟩ := wb_opn hC.2.2.2.2.2.2.2.2.2 h
  have hnx : nx = pc + 1 := of_decide_eq_true hs
  subst hnx
  rw [Nat.add_sub_cancel_left] at hd
  obtain ⟨h3, hqN, ha⟩ := hR.at hw (by intro q; unfold wb_no aQ at q; cases q)
  obtain ⟨-, -, hav⟩ := hR.at hr (by intro q; unfold wb_no at q; cases q; rcases ht with ⟨-, h⟩ | ⟨-, h⟩ <;> cases h)
  have ecl := wb_i_cl hi.1 hi.2.2
  have ecn : (wb_i i).toNatClampNeg = i.toNat := by omega
  have hK := hC.2.2.2.2.2.2.2.2.1.1
  obtain ⟨r', hr', cellV, g1, g2, g3, -⟩ := hav
  obtain ⟨C, hc, ht2⟩ : ∃ C : vw_C, vwCl[ci]? = some C ∧ (wb_ty G)[t]? = some (wb_gc G t, .object C.1) := by
    rcases ht with ⟨rfl, rfl⟩ | ⟨rfl, rfl⟩ <;> exact ⟨_, rfl, rfl⟩
  have hcls := (hK.1 ci C hc).2
  obtain ⟨kA, comp, k1, k2, k3, -⟩ := (hK.2 t _ ht2).2
  have hcomp : comp = (wb_gD G).1 ci := Option.some.inj (k3.symm.trans hcls.1)
  subst hcomp
  obtain ⟨kC, hkC, -⟩ := hcls.2
  refine W.aast hC.1 hC.2.1 ha (fun q h => by cases h) (fun h => by cases h) k1 k2 rfl hkC ⟨by rw [show (0 : Int32) = wb_i 0 from rfl, wb_i_lt (by omega) (by omega)]; omega, by show _ < (arrV _ _ _).slots.size; rw [arrV_size, ecn]; show _ < n; omega⟩ g1 (fun q h => by rw [g3] at h; cases h) (by rw [g2]; exact hkC) (by rw [g2]; exact va_assign hcls) rfl rfl hd fun H1 e1 z oq => ?_
  refine kk p e s m args below meth c H1 _ ls Qe hC (hR.set h3 hqN z oq ?_) hl (wb_locs hf h3) hq
  show H1[wb_ad G q]? = some (vp_cell _ _)
  rw [e1]
  show some ((vp_cell (wb_gc G t) (n, .inr (.inr (.inr (.inr fun j => (g j).map (wb_ad G)))))).setSlot (wb_i i).toNatClampNeg (.ref (wb_ad G r))) = some (vp_cell (wb_gc G t) (n, .inr (.inr (.inr (.inr fun j => (va_up g i.toNat (some r) j).map (wb_ad G))))))
  rw [vp_cell_q, vp_cell_q, arrV_store]
  congr 2
  funext j
  by_cases hj : j = i.toNat
  · subst hj
    simp [updV, va_up, va_rf, ecn]
  · simp [updV, va_up, hj, ecn]
end WBARR
end
