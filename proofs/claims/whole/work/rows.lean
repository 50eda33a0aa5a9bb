section
-- ===== PART A: goes FIRST, ahead of the names: the tables' words, and 'selects' of the private methods out of them =====
/-- a private method of a class that the tables say can be made, by its rows of tables_1 -/
def lw_okq (q : MethodName × Nat) : Prop := (q.1.cls ≠ "java/lang/invoke/MethodHandle" ∧ q.1.cls ≠ "java/lang/invoke/VarHandle") ∧ Cond.instantiable q.1.cls q.2 ∈ tables_1 ∧ Cond.privateMethod q.1 ∈ tables_1 ∧ Cond.instanceMethod q.1 ∈ tables_1
theorem lw_p0 : lw_okq (⟨"WorkedBack", "isMonth", "(I)Z"⟩, 8) := ⟨⟨by decide +kernel, by decide +kernel⟩, List.mem_of_getElem? (i := 19) (by decide +kernel), List.mem_of_getElem? (i := 475) (by decide +kernel), List.mem_of_getElem? (i := 476) (by decide +kernel)⟩
theorem lw_p1 : lw_okq (⟨"WorkedBack$Text", "beginTest", "()V"⟩, 10) := ⟨⟨by decide +kernel, by decide +kernel⟩, List.mem_of_getElem? (i := 92) (by decide +kernel), List.mem_of_getElem? (i := 575) (by decide +kernel), List.mem_of_getElem? (i := 576) (by decide +kernel)⟩
theorem lw_p2 : lw_okq (⟨"WorkedBack$Text", "endTest", "()V"⟩, 10) := ⟨⟨by decide +kernel, by decide +kernel⟩, List.mem_of_getElem? (i := 92) (by decide +kernel), List.mem_of_getElem? (i := 579) (by decide +kernel), List.mem_of_getElem? (i := 580) (by decide +kernel)⟩
theorem lw_p3 : lw_okq (⟨"WorkedBack$Text", "setBelow", "()V"⟩, 10) := ⟨⟨by decide +kernel, by decide +kernel⟩, List.mem_of_getElem? (i := 92) (by decide +kernel), List.mem_of_getElem? (i := 583) (by decide +kernel), List.mem_of_getElem? (i := 584) (by decide +kernel)⟩
theorem lw_p4 : lw_okq (⟨"WorkedBack$Text", "narrowBoth", "(II)V"⟩, 10) := ⟨⟨by decide +kernel, by decide +kernel⟩, List.mem_of_getElem? (i := 92) (by decide +kernel), List.mem_of_getElem? (i := 593) (by decide +kernel), List.mem_of_getElem? (i := 594) (by decide +kernel)⟩
theorem lw_p5 : lw_okq (⟨"WorkedBack$Text", "readOn", "(I)V"⟩, 10) := ⟨⟨by decide +kernel, by decide +kernel⟩, List.mem_of_getElem? (i := 92) (by decide +kernel), List.mem_of_getElem? (i := 603) (by decide +kernel), List.mem_of_getElem? (i := 604) (by decide +kernel)⟩
theorem lw_p6 : lw_okq (⟨"WorkedBack$Book", "needOfPair", "(II)I"⟩, 8) := ⟨⟨by decide +kernel, by decide +kernel⟩, List.mem_of_getElem? (i := 27) (by decide +kernel), List.mem_of_getElem? (i := 675) (by decide +kernel), List.mem_of_getElem? (i := 676) (by decide +kernel)⟩
theorem lw_p7 : lw_okq (⟨"WorkedBack$Course", "setNeeds", "(LWorkedBack$Book;I)V"⟩, 10) := ⟨⟨by decide +kernel, by decide +kernel⟩, List.mem_of_getElem? (i := 207) (by decide +kernel), List.mem_of_getElem? (i := 723) (by decide +kernel), List.mem_of_getElem? (i := 724) (by decide +kernel)⟩
theorem lw_p8 : lw_okq (⟨"WorkedBack$Course", "goesThrough", "(LWorkedBack$Flow;I)Z"⟩, 10) := ⟨⟨by decide +kernel, by decide +kernel⟩, List.mem_of_getElem? (i := 207) (by decide +kernel), List.mem_of_getElem? (i := 741) (by decide +kernel), List.mem_of_getElem? (i := 742) (by decide +kernel)⟩
theorem lw_p9 : lw_okq (⟨"WorkedBack$Works", "setMade", "()V"⟩, 13) := ⟨⟨by decide +kernel, by decide +kernel⟩, List.mem_of_getElem? (i := 133) (by decide +kernel), List.mem_of_getElem? (i := 777) (by decide +kernel), List.mem_of_getElem? (i := 778) (by decide +kernel)⟩
theorem lw_p10 : lw_okq (⟨"WorkedBack$Works", "firstWith", "(II)I"⟩, 13) := ⟨⟨by decide +kernel, by decide +kernel⟩, List.mem_of_getElem? (i := 133) (by decide +kernel), List.mem_of_getElem? (i := 861) (by decide +kernel), List.mem_of_getElem? (i := 862) (by decide +kernel)⟩
theorem lw_p11 : lw_okq (⟨"WorkedBack$Search", "leastMore", "()I"⟩, 7) := ⟨⟨by decide +kernel, by decide +kernel⟩, List.mem_of_getElem? (i := 322) (by decide +kernel), List.mem_of_getElem? (i := 889) (by decide +kernel), List.mem_of_getElem? (i := 890) (by decide +kernel)⟩
theorem lw_p12 : lw_okq (⟨"WorkedBack$Search", "seekDoubtOf", "(I)V"⟩, 7) := ⟨⟨by decide +kernel, by decide +kernel⟩, List.mem_of_getElem? (i := 322) (by decide +kernel), List.mem_of_getElem? (i := 901) (by decide +kernel), List.mem_of_getElem? (i := 902) (by decide +kernel)⟩
theorem lw_p13 : lw_okq (⟨"WorkedBack$Course", "chartAhead", "(LWorkedBack$Flow;I)V"⟩, 10) := ⟨⟨by decide +kernel, by decide +kernel⟩, List.mem_of_getElem? (i := 207) (by decide +kernel), List.mem_of_getElem? (i := 927) (by decide +kernel), List.mem_of_getElem? (i := 928) (by decide +kernel)⟩
theorem lw_p14 : lw_okq (⟨"WorkedBack$Course", "chartOnward", "(LWorkedBack$Flow;I)V"⟩, 10) := ⟨⟨by decide +kernel, by decide +kernel⟩, List.mem_of_getElem? (i := 207) (by decide +kernel), List.mem_of_getElem? (i := 934) (by decide +kernel), List.mem_of_getElem? (i := 935) (by decide +kernel)⟩
theorem lw_p15 : lw_okq (⟨"WorkedBack$Break", "hasStarts", "(I)Z"⟩, 10) := ⟨⟨by decide +kernel, by decide +kernel⟩, List.mem_of_getElem? (i := 354) (by decide +kernel), List.mem_of_getElem? (i := 947) (by decide +kernel), List.mem_of_getElem? (i := 948) (by decide +kernel)⟩
def lw_privs_1 : List (MethodName × Nat) := [(⟨"WorkedBack", "isMonth", "(I)Z"⟩, 8), (⟨"WorkedBack$Text", "beginTest", "()V"⟩, 10), (⟨"WorkedBack$Text", "endTest", "()V"⟩, 10), (⟨"WorkedBack$Text", "setBelow", "()V"⟩, 10), (⟨"WorkedBack$Text", "narrowBoth", "(II)V"⟩, 10), (⟨"WorkedBack$Text", "readOn", "(I)V"⟩, 10), (⟨"WorkedBack$Book", "needOfPair", "(II)I"⟩, 8), (⟨"WorkedBack$Course", "setNeeds", "(LWorkedBack$Book;I)V"⟩, 10), (⟨"WorkedBack$Course", "goesThrough", "(LWorkedBack$Flow;I)Z"⟩, 10), (⟨"WorkedBack$Works", "setMade", "()V"⟩, 13), (⟨"WorkedBack$Works", "firstWith", "(II)I"⟩, 13), (⟨"WorkedBack$Search", "leastMore", "()I"⟩, 7), (⟨"WorkedBack$Search", "seekDoubtOf", "(I)V"⟩, 7), (⟨"WorkedBack$Course", "chartAhead", "(LWorkedBack$Flow;I)V"⟩, 10), (⟨"WorkedBack$Course", "chartOnward", "(LWorkedBack$Flow;I)V"⟩, 10), (⟨"WorkedBack$Break", "hasStarts", "(I)Z"⟩, 10)]
theorem lw_r1 : ∀ q ∈ lw_privs_1, lw_okq q := List.forall_mem_cons.mpr ⟨lw_p0, List.forall_mem_cons.mpr ⟨lw_p1, List.forall_mem_cons.mpr ⟨lw_p2, List.forall_mem_cons.mpr ⟨lw_p3, List.forall_mem_cons.mpr ⟨lw_p4, List.forall_mem_cons.mpr ⟨lw_p5, List.forall_mem_cons.mpr ⟨lw_p6, List.forall_mem_cons.mpr ⟨lw_p7, List.forall_mem_cons.mpr ⟨lw_p8, List.forall_mem_cons.mpr ⟨lw_p9, List.forall_mem_cons.mpr ⟨lw_p10, List.forall_mem_cons.mpr ⟨lw_p11, List.forall_mem_cons.mpr ⟨lw_p12, List.forall_mem_cons.mpr ⟨lw_p13, List.forall_mem_cons.mpr ⟨lw_p14, List.forall_mem_cons.mpr ⟨lw_p15, fun _ h => absurd h List.not_mem_nil⟩⟩⟩⟩⟩⟩⟩⟩⟩⟩⟩⟩⟩⟩⟩⟩
theorem lw_p16 : lw_okq (⟨"WorkedBack$Break", "partnerOf", "(I)I"⟩, 10) := ⟨⟨by decide +kernel, by decide +kernel⟩, List.mem_of_getElem? (i := 354) (by decide +kernel), List.mem_of_getElem? (i := 951) (by decide +kernel), List.mem_of_getElem? (i := 952) (by decide +kernel)⟩
theorem lw_p17 : lw_okq (⟨"WorkedBack$Break", "hasLaters", "(II)Z"⟩, 10) := ⟨⟨by decide +kernel, by decide +kernel⟩, List.mem_of_getElem? (i := 354) (by decide +kernel), List.mem_of_getElem? (i := 958) (by decide +kernel), List.mem_of_getElem? (i := 959) (by decide +kernel)⟩
theorem lw_p18 : lw_okq (⟨"WorkedBack$Break", "latersOf", "(III)I"⟩, 10) := ⟨⟨by decide +kernel, by decide +kernel⟩, List.mem_of_getElem? (i := 354) (by decide +kernel), List.mem_of_getElem? (i := 963) (by decide +kernel), List.mem_of_getElem? (i := 964) (by decide +kernel)⟩
theorem lw_p19 : lw_okq (⟨"WorkedBack$Course", "isPlace", "(II)Z"⟩, 10) := ⟨⟨by decide +kernel, by decide +kernel⟩, List.mem_of_getElem? (i := 207) (by decide +kernel), List.mem_of_getElem? (i := 972) (by decide +kernel), List.mem_of_getElem? (i := 973) (by decide +kernel)⟩
theorem lw_p20 : lw_okq (⟨"WorkedBack$Break", "latersWith", "(IIIII)I"⟩, 10) := ⟨⟨by decide +kernel, by decide +kernel⟩, List.mem_of_getElem? (i := 354) (by decide +kernel), List.mem_of_getElem? (i := 990) (by decide +kernel), List.mem_of_getElem? (i := 991) (by decide +kernel)⟩
theorem lw_p21 : lw_okq (⟨"WorkedBack$Break", "isFound", "(I)Z"⟩, 10) := ⟨⟨by decide +kernel, by decide +kernel⟩, List.mem_of_getElem? (i := 354) (by decide +kernel), List.mem_of_getElem? (i := 995) (by decide +kernel), List.mem_of_getElem? (i := 996) (by decide +kernel)⟩
theorem lw_p22 : lw_okq (⟨"WorkedBack$Break", "isFoundFrom", "(II)Z"⟩, 10) := ⟨⟨by decide +kernel, by decide +kernel⟩, List.mem_of_getElem? (i := 354) (by decide +kernel), List.mem_of_getElem? (i := 1000) (by decide +kernel), List.mem_of_getElem? (i := 1001) (by decide +kernel)⟩
theorem lw_p23 : lw_okq (⟨"WorkedBack$Weighing", "weighAll", "()V"⟩, 7) := ⟨⟨by decide +kernel, by decide +kernel⟩, List.mem_of_getElem? (i := 399) (by decide +kernel), List.mem_of_getElem? (i := 1052) (by decide +kernel), List.mem_of_getElem? (i := 1053) (by decide +kernel)⟩
theorem lw_p24 : lw_okq (⟨"WorkedBack$Weighing", "setWeights", "(I)V"⟩, 7) := ⟨⟨by decide +kernel, by decide +kernel⟩, List.mem_of_getElem? (i := 399) (by decide +kernel), List.mem_of_getElem? (i := 1058) (by decide +kernel), List.mem_of_getElem? (i := 1059) (by decide +kernel)⟩
theorem lw_p25 : lw_okq (⟨"WorkedBack$Weighing", "addWeights", "(III)V"⟩, 7) := ⟨⟨by decide +kernel, by decide +kernel⟩, List.mem_of_getElem? (i := 399) (by decide +kernel), List.mem_of_getElem? (i := 1066) (by decide +kernel), List.mem_of_getElem? (i := 1067) (by decide +kernel)⟩
theorem lw_p26 : lw_okq (⟨"WorkedBack$Weighing", "addGuestWeights", "(IIIJJ)V"⟩, 7) := ⟨⟨by decide +kernel, by decide +kernel⟩, List.mem_of_getElem? (i := 399) (by decide +kernel), List.mem_of_getElem? (i := 1074) (by decide +kernel), List.mem_of_getElem? (i := 1075) (by decide +kernel)⟩
theorem lw_p27 : lw_okq (⟨"WorkedBack$Weighing", "weigh", "(LWorkedBack$Course;II)V"⟩, 7) := ⟨⟨by decide +kernel, by decide +kernel⟩, List.mem_of_getElem? (i := 399) (by decide +kernel), List.mem_of_getElem? (i := 1078) (by decide +kernel), List.mem_of_getElem? (i := 1079) (by decide +kernel)⟩
theorem lw_p28 : lw_okq (⟨"WorkedBack$Weighing", "count", "(LWorkedBack$Course;IIII)V"⟩, 7) := ⟨⟨by decide +kernel, by decide +kernel⟩, List.mem_of_getElem? (i := 399) (by decide +kernel), List.mem_of_getElem? (i := 1084) (by decide +kernel), List.mem_of_getElem? (i := 1085) (by decide +kernel)⟩
theorem lw_p29 : lw_okq (⟨"WorkedBack$Weighing", "countKey", "(LWorkedBack$Course;IIIII)V"⟩, 7) := ⟨⟨by decide +kernel, by decide +kernel⟩, List.mem_of_getElem? (i := 399) (by decide +kernel), List.mem_of_getElem? (i := 1088) (by decide +kernel), List.mem_of_getElem? (i := 1089) (by decide +kernel)⟩
theorem lw_p30 : lw_okq (⟨"WorkedBack$Weighing", "isBetter", "(IIII)Z"⟩, 7) := ⟨⟨by decide +kernel, by decide +kernel⟩, List.mem_of_getElem? (i := 399) (by decide +kernel), List.mem_of_getElem? (i := 1114) (by decide +kernel), List.mem_of_getElem? (i := 1115) (by decide +kernel)⟩
theorem lw_p31 : lw_okq (⟨"WorkedBackModel", "isMonth", "(I)Z"⟩, 26) := ⟨⟨by decide +kernel, by decide +kernel⟩, List.mem_of_getElem? (i := 1141) (by decide +kernel), List.mem_of_getElem? (i := 1239) (by decide +kernel), List.mem_of_getElem? (i := 1240) (by decide +kernel)⟩
def lw_privs_2 : List (MethodName × Nat) := [(⟨"WorkedBack$Break", "partnerOf", "(I)I"⟩, 10), (⟨"WorkedBack$Break", "hasLaters", "(II)Z"⟩, 10), (⟨"WorkedBack$Break", "latersOf", "(III)I"⟩, 10), (⟨"WorkedBack$Course", "isPlace", "(II)Z"⟩, 10), (⟨"WorkedBack$Break", "latersWith", "(IIIII)I"⟩, 10), (⟨"WorkedBack$Break", "isFound", "(I)Z"⟩, 10), (⟨"WorkedBack$Break", "isFoundFrom", "(II)Z"⟩, 10), (⟨"WorkedBack$Weighing", "weighAll", "()V"⟩, 7), (⟨"WorkedBack$Weighing", "setWeights", "(I)V"⟩, 7), (⟨"WorkedBack$Weighing", "addWeights", "(III)V"⟩, 7), (⟨"WorkedBack$Weighing", "addGuestWeights", "(IIIJJ)V"⟩, 7), (⟨"WorkedBack$Weighing", "weigh", "(LWorkedBack$Course;II)V"⟩, 7), (⟨"WorkedBack$Weighing", "count", "(LWorkedBack$Course;IIII)V"⟩, 7), (⟨"WorkedBack$Weighing", "countKey", "(LWorkedBack$Course;IIIII)V"⟩, 7), (⟨"WorkedBack$Weighing", "isBetter", "(IIII)Z"⟩, 7), (⟨"WorkedBackModel", "isMonth", "(I)Z"⟩, 26)]
theorem lw_r2 : ∀ q ∈ lw_privs_2, lw_okq q := List.forall_mem_cons.mpr ⟨lw_p16, List.forall_mem_cons.mpr ⟨lw_p17, List.forall_mem_cons.mpr ⟨lw_p18, List.forall_mem_cons.mpr ⟨lw_p19, List.forall_mem_cons.mpr ⟨lw_p20, List.forall_mem_cons.mpr ⟨lw_p21, List.forall_mem_cons.mpr ⟨lw_p22, List.forall_mem_cons.mpr ⟨lw_p23, List.forall_mem_cons.mpr ⟨lw_p24, List.forall_mem_cons.mpr ⟨lw_p25, List.forall_mem_cons.mpr ⟨lw_p26, List.forall_mem_cons.mpr ⟨lw_p27, List.forall_mem_cons.mpr ⟨lw_p28, List.forall_mem_cons.mpr ⟨lw_p29, List.forall_mem_cons.mpr ⟨lw_p30, List.forall_mem_cons.mpr ⟨lw_p31, fun _ h => absurd h List.not_mem_nil⟩⟩⟩⟩⟩⟩⟩⟩⟩⟩⟩⟩⟩⟩⟩⟩
theorem lw_p32 : lw_okq (⟨"WorkedBackModel", "standOf", "()I"⟩, 26) := ⟨⟨by decide +kernel, by decide +kernel⟩, List.mem_of_getElem? (i := 1141) (by decide +kernel), List.mem_of_getElem? (i := 1265) (by decide +kernel), List.mem_of_getElem? (i := 1266) (by decide +kernel)⟩
theorem lw_p33 : lw_okq (⟨"WorkedBackModel", "faultOf", "()I"⟩, 26) := ⟨⟨by decide +kernel, by decide +kernel⟩, List.mem_of_getElem? (i := 1141) (by decide +kernel), List.mem_of_getElem? (i := 1281) (by decide +kernel), List.mem_of_getElem? (i := 1282) (by decide +kernel)⟩
theorem lw_p34 : lw_okq (⟨"WorkedBackModel", "boths", "()I"⟩, 26) := ⟨⟨by decide +kernel, by decide +kernel⟩, List.mem_of_getElem? (i := 1141) (by decide +kernel), List.mem_of_getElem? (i := 1289) (by decide +kernel), List.mem_of_getElem? (i := 1290) (by decide +kernel)⟩
theorem lw_p35 : lw_okq (⟨"WorkedBackModel", "keeps", "(I)Z"⟩, 26) := ⟨⟨by decide +kernel, by decide +kernel⟩, List.mem_of_getElem? (i := 1141) (by decide +kernel), List.mem_of_getElem? (i := 1304) (by decide +kernel), List.mem_of_getElem? (i := 1305) (by decide +kernel)⟩
theorem lw_p36 : lw_okq (⟨"WorkedBackModel", "goesBy", "(II)I"⟩, 26) := ⟨⟨by decide +kernel, by decide +kernel⟩, List.mem_of_getElem? (i := 1141) (by decide +kernel), List.mem_of_getElem? (i := 1311) (by decide +kernel), List.mem_of_getElem? (i := 1312) (by decide +kernel)⟩
theorem lw_p37 : lw_okq (⟨"WorkedBackModel", "goes", "(IIIIII)I"⟩, 26) := ⟨⟨by decide +kernel, by decide +kernel⟩, List.mem_of_getElem? (i := 1141) (by decide +kernel), List.mem_of_getElem? (i := 1318) (by decide +kernel), List.mem_of_getElem? (i := 1319) (by decide +kernel)⟩
theorem lw_p38 : lw_okq (⟨"WorkedBackModel", "needOf", "(IIII)I"⟩, 26) := ⟨⟨by decide +kernel, by decide +kernel⟩, List.mem_of_getElem? (i := 1141) (by decide +kernel), List.mem_of_getElem? (i := 1322) (by decide +kernel), List.mem_of_getElem? (i := 1323) (by decide +kernel)⟩
theorem lw_p39 : lw_okq (⟨"WorkedBackModel", "isStoodIn", "(I)Z"⟩, 26) := ⟨⟨by decide +kernel, by decide +kernel⟩, List.mem_of_getElem? (i := 1141) (by decide +kernel), List.mem_of_getElem? (i := 1326) (by decide +kernel), List.mem_of_getElem? (i := 1327) (by decide +kernel)⟩
theorem lw_p40 : lw_okq (⟨"WorkedBackModel", "pass", "(III)Z"⟩, 26) := ⟨⟨by decide +kernel, by decide +kernel⟩, List.mem_of_getElem? (i := 1141) (by decide +kernel), List.mem_of_getElem? (i := 1330) (by decide +kernel), List.mem_of_getElem? (i := 1331) (by decide +kernel)⟩
theorem lw_p41 : lw_okq (⟨"WorkedBackModel", "lay", "()I"⟩, 26) := ⟨⟨by decide +kernel, by decide +kernel⟩, List.mem_of_getElem? (i := 1141) (by decide +kernel), List.mem_of_getElem? (i := 1351) (by decide +kernel), List.mem_of_getElem? (i := 1352) (by decide +kernel)⟩
theorem lw_p42 : lw_okq (⟨"WorkedBackModel", "layThings", "()V"⟩, 26) := ⟨⟨by decide +kernel, by decide +kernel⟩, List.mem_of_getElem? (i := 1141) (by decide +kernel), List.mem_of_getElem? (i := 1355) (by decide +kernel), List.mem_of_getElem? (i := 1356) (by decide +kernel)⟩
theorem lw_p43 : lw_okq (⟨"WorkedBackModel", "layThing", "(I)V"⟩, 26) := ⟨⟨by decide +kernel, by decide +kernel⟩, List.mem_of_getElem? (i := 1141) (by decide +kernel), List.mem_of_getElem? (i := 1359) (by decide +kernel), List.mem_of_getElem? (i := 1360) (by decide +kernel)⟩
theorem lw_p44 : lw_okq (⟨"WorkedBackModel", "agreesWithAll", "(I)Z"⟩, 26) := ⟨⟨by decide +kernel, by decide +kernel⟩, List.mem_of_getElem? (i := 1141) (by decide +kernel), List.mem_of_getElem? (i := 1363) (by decide +kernel), List.mem_of_getElem? (i := 1364) (by decide +kernel)⟩
theorem lw_p45 : lw_okq (⟨"WorkedBackModel", "agreesWith", "(II)Z"⟩, 26) := ⟨⟨by decide +kernel, by decide +kernel⟩, List.mem_of_getElem? (i := 1141) (by decide +kernel), List.mem_of_getElem? (i := 1367) (by decide +kernel), List.mem_of_getElem? (i := 1368) (by decide +kernel)⟩
theorem lw_p46 : lw_okq (⟨"WorkedBackModel", "firstNow", "()I"⟩, 26) := ⟨⟨by decide +kernel, by decide +kernel⟩, List.mem_of_getElem? (i := 1141) (by decide +kernel), List.mem_of_getElem? (i := 1390) (by decide +kernel), List.mem_of_getElem? (i := 1391) (by decide +kernel)⟩
theorem lw_p47 : lw_okq (⟨"WorkedBackModel", "changedFrom", "(II)I"⟩, 26) := ⟨⟨by decide +kernel, by decide +kernel⟩, List.mem_of_getElem? (i := 1141) (by decide +kernel), List.mem_of_getElem? (i := 1405) (by decide +kernel), List.mem_of_getElem? (i := 1406) (by decide +kernel)⟩
def lw_privs_3 : List (MethodName × Nat) := [(⟨"WorkedBackModel", "standOf", "()I"⟩, 26), (⟨"WorkedBackModel", "faultOf", "()I"⟩, 26), (⟨"WorkedBackModel", "boths", "()I"⟩, 26), (⟨"WorkedBackModel", "keeps", "(I)Z"⟩, 26), (⟨"WorkedBackModel", "goesBy", "(II)I"⟩, 26), (⟨"WorkedBackModel", "goes", "(IIIIII)I"⟩, 26), (⟨"WorkedBackModel", "needOf", "(IIII)I"⟩, 26), (⟨"WorkedBackModel", "isStoodIn", "(I)Z"⟩, 26), (⟨"WorkedBackModel", "pass", "(III)Z"⟩, 26), (⟨"WorkedBackModel", "lay", "()I"⟩, 26), (⟨"WorkedBackModel", "layThings", "()V"⟩, 26), (⟨"WorkedBackModel", "layThing", "(I)V"⟩, 26), (⟨"WorkedBackModel", "agreesWithAll", "(I)Z"⟩, 26), (⟨"WorkedBackModel", "agreesWith", "(II)Z"⟩, 26), (⟨"WorkedBackModel", "firstNow", "()I"⟩, 26), (⟨"WorkedBackModel", "changedFrom", "(II)I"⟩, 26)]
theorem lw_r3 : ∀ q ∈ lw_privs_3, lw_okq q := List.forall_mem_cons.mpr ⟨lw_p32, List.forall_mem_cons.mpr ⟨lw_p33, List.forall_mem_cons.mpr ⟨lw_p34, List.forall_mem_cons.mpr ⟨lw_p35, List.forall_mem_cons.mpr ⟨lw_p36, List.forall_mem_cons.mpr ⟨lw_p37, List.forall_mem_cons.mpr ⟨lw_p38, List.forall_mem_cons.mpr ⟨lw_p39, List.forall_mem_cons.mpr ⟨lw_p40, List.forall_mem_cons.mpr ⟨lw_p41, List.forall_mem_cons.mpr ⟨lw_p42, List.forall_mem_cons.mpr ⟨lw_p43, List.forall_mem_cons.mpr ⟨lw_p44, List.forall_mem_cons.mpr ⟨lw_p45, List.forall_mem_cons.mpr ⟨lw_p46, List.forall_mem_cons.mpr ⟨lw_p47, fun _ h => absurd h List.not_mem_nil⟩⟩⟩⟩⟩⟩⟩⟩⟩⟩⟩⟩⟩⟩⟩⟩
theorem lw_p48 : lw_okq (⟨"WorkedBackModel", "agreesChanged", "(IIIII)Z"⟩, 26) := ⟨⟨by decide +kernel, by decide +kernel⟩, List.mem_of_getElem? (i := 1141) (by decide +kernel), List.mem_of_getElem? (i := 1409) (by decide +kernel), List.mem_of_getElem? (i := 1410) (by decide +kernel)⟩
theorem lw_p49 : lw_okq (⟨"WorkedBackModel", "costOf", "(III)I"⟩, 26) := ⟨⟨by decide +kernel, by decide +kernel⟩, List.mem_of_getElem? (i := 1141) (by decide +kernel), List.mem_of_getElem? (i := 1417) (by decide +kernel), List.mem_of_getElem? (i := 1418) (by decide +kernel)⟩
theorem lw_p50 : lw_okq (⟨"WorkedBackModel", "layOpen", "(I)V"⟩, 26) := ⟨⟨by decide +kernel, by decide +kernel⟩, List.mem_of_getElem? (i := 1141) (by decide +kernel), List.mem_of_getElem? (i := 1433) (by decide +kernel), List.mem_of_getElem? (i := 1434) (by decide +kernel)⟩
theorem lw_p51 : lw_okq (⟨"WorkedBackModel", "mostBy", "(II)I"⟩, 26) := ⟨⟨by decide +kernel, by decide +kernel⟩, List.mem_of_getElem? (i := 1141) (by decide +kernel), List.mem_of_getElem? (i := 1437) (by decide +kernel), List.mem_of_getElem? (i := 1438) (by decide +kernel)⟩
theorem lw_p52 : lw_okq (⟨"WorkedBackModel", "countTried", "(I)I"⟩, 26) := ⟨⟨by decide +kernel, by decide +kernel⟩, List.mem_of_getElem? (i := 1141) (by decide +kernel), List.mem_of_getElem? (i := 1441) (by decide +kernel), List.mem_of_getElem? (i := 1442) (by decide +kernel)⟩
def lw_privs_4 : List (MethodName × Nat) := [(⟨"WorkedBackModel", "agreesChanged", "(IIIII)Z"⟩, 26), (⟨"WorkedBackModel", "costOf", "(III)I"⟩, 26), (⟨"WorkedBackModel", "layOpen", "(I)V"⟩, 26), (⟨"WorkedBackModel", "mostBy", "(II)I"⟩, 26), (⟨"WorkedBackModel", "countTried", "(I)I"⟩, 26)]
theorem lw_r4 : ∀ q ∈ lw_privs_4, lw_okq q := List.forall_mem_cons.mpr ⟨lw_p48, List.forall_mem_cons.mpr ⟨lw_p49, List.forall_mem_cons.mpr ⟨lw_p50, List.forall_mem_cons.mpr ⟨lw_p51, List.forall_mem_cons.mpr ⟨lw_p52, fun _ h => absurd h List.not_mem_nil⟩⟩⟩⟩⟩
def lw_privs : List (MethodName × Nat) := lw_privs_1 ++ (lw_privs_2 ++ (lw_privs_3 ++ (lw_privs_4)))
def lw_tbl : List Cond := k2_sels lw_privs ++ tables_1
theorem lw_privs_ok : ∀ q ∈ lw_privs, lw_okq q := by
  show ∀ q ∈ lw_privs_1 ++ (lw_privs_2 ++ (lw_privs_3 ++ (lw_privs_4))), lw_okq q
  exact List.forall_mem_append.mpr ⟨lw_r1, List.forall_mem_append.mpr ⟨lw_r2, List.forall_mem_append.mpr ⟨lw_r3, lw_r4⟩⟩⟩
def RX0 : String := "WorkedBack$Book"
def TX0 : u_T := fun k => match k with
  | 0 => ("WorkedBack$Book", "months", "I", false)
  | 1 => ("WorkedBack$Book", "cells", "[I", true)
  | 2 => ("WorkedBack$Book", "stocks", "[I", true)
  | 3 => ("WorkedBack$Book", "stander", "I", false)
  | 4 => ("WorkedBack$Book", "stoodFor", "I", false)
  | 5 => ("WorkedBack$Book", "boths", "I", false)
  | 6 => ("WorkedBack$Book", "kept", "LWorkedBack$Mixtures;", true)
  | _ => ("WorkedBack$Book", "turn", "I", false)
def tyX0 : Nat → FieldType := fun k => match k with
  | 0 => .int
  | 1 => .array .int
  | 2 => .array .int
  | 3 => .int
  | 4 => .int
  | 5 => .int
  | 6 => .object "WorkedBack$Mixtures"
  | _ => .int
abbrev wsX00 : List Cond := u_ws RX0 TX0 8
theorem nmX0 : ∀ a, a < 8 → ∀ b, b < 8 → a ≠ b → (TX0 a).2.1 ≠ (TX0 b).2.1 := by decide +kernel
theorem tyX0_ok : ∀ k, k < 8 → parseFieldDescriptor (TX0 k).2.2.1 = some (tyX0 k) := by decide +kernel
abbrev cX0_init : ByteArray := prog_2_method_1_code
def yX0_init : MethodName := ⟨RX0, "<init>", "()V"⟩
abbrev cX0_copy : ByteArray := prog_2_method_2_code
def yX0_copy : MethodName := ⟨RX0, "copy", "(LWorkedBack$Book;)V"⟩
abbrev cX0_addMonth : ByteArray := prog_2_method_3_code
def yX0_addMonth : MethodName := ⟨RX0, "addMonth", "()I"⟩
abbrev cX0_dropMonth : ByteArray := prog_2_method_4_code
def yX0_dropMonth : MethodName := ⟨RX0, "dropMonth", "()I"⟩
abbrev cX0_cell : ByteArray := prog_2_method_5_code
def yX0_cell : MethodName := ⟨RX0, "cell", "(II)I"⟩
abbrev cX0_setCell : ByteArray := prog_2_method_6_code
def yX0_setCell : MethodName := ⟨RX0, "setCell", "(III)V"⟩
abbrev cX0_stockCell : ByteArray := prog_2_method_7_code
def yX0_stockCell : MethodName := ⟨RX0, "stockCell", "(II)I"⟩
abbrev cX0_setStockCell : ByteArray := prog_2_method_8_code
def yX0_setStockCell : MethodName := ⟨RX0, "setStockCell", "(III)V"⟩
abbrev cX0_standing : ByteArray := prog_2_method_9_code
def yX0_standing : MethodName := ⟨RX0, "standing", "()I"⟩
abbrev cX0_setStanding : ByteArray := prog_2_method_10_code
def yX0_setStanding : MethodName := ⟨RX0, "setStanding", "(II)V"⟩
abbrev cX0_setBoths : ByteArray := prog_2_method_11_code
def yX0_setBoths : MethodName := ⟨RX0, "setBoths", "(I)V"⟩
abbrev cX0_standsIn : ByteArray := prog_2_method_12_code
def yX0_standsIn : MethodName := ⟨RX0, "standsIn", "(I)Z"⟩
abbrev cX0_guestOf : ByteArray := prog_2_method_13_code
def yX0_guestOf : MethodName := ⟨RX0, "guestOf", "(I)I"⟩
abbrev cX0_ownNeed : ByteArray := prog_2_method_14_code
def yX0_ownNeed : MethodName := ⟨RX0, "ownNeed", "(III)I"⟩
abbrev cX0_guestNeed : ByteArray := prog_2_method_15_code
def yX0_guestNeed : MethodName := ⟨RX0, "guestNeed", "(III)I"⟩
abbrev cX0_needOfPair : ByteArray := prog_2_method_16_code
def yX0_needOfPair : MethodName := ⟨RX0, "needOfPair", "(II)I"⟩
abbrev cX0_neededBy : ByteArray := prog_2_method_17_code
def yX0_neededBy : MethodName := ⟨RX0, "neededBy", "(III)I"⟩
abbrev cX0_priceOf : ByteArray := prog_2_method_18_code
def yX0_priceOf : MethodName := ⟨RX0, "priceOf", "(II)I"⟩
def RX1 : String := "WorkedBack$Break"
def TX1 : u_T := fun k => match k with
  | 0 => ("WorkedBack$Break", "works", "LWorkedBack$Works;", true)
  | 1 => ("WorkedBack$Break", "mesh", "LWorkedBack$Mesh;", true)
  | 2 => ("WorkedBack$Break", "starts", "LWorkedBack$Mixtures;", true)
  | 3 => ("WorkedBack$Break", "laters", "[I", true)
  | 4 => ("WorkedBack$Break", "partner", "I", false)
  | 5 => ("WorkedBack$Break", "turn", "I", false)
  | 6 => ("WorkedBack$Break", "month", "I", false)
  | 7 => ("WorkedBack$Break", "thing", "I", false)
  | 8 => ("WorkedBack$Break", "before", "I", false)
  | _ => ("WorkedBack$Break", "behind", "I", false)
def tyX1 : Nat → FieldType := fun k => match k with
  | 0 => .object "WorkedBack$Works"
  | 1 => .object "WorkedBack$Mesh"
  | 2 => .object "WorkedBack$Mixtures"
  | 3 => .array .int
  | 4 => .int
  | 5 => .int
  | 6 => .int
  | 7 => .int
  | 8 => .int
  | _ => .int
abbrev wsX10 : List Cond := u_ws RX1 TX1 10
theorem nmX1 : ∀ a, a < 10 → ∀ b, b < 10 → a ≠ b → (TX1 a).2.1 ≠ (TX1 b).2.1 := by decide +kernel
theorem tyX1_ok : ∀ k, k < 10 → parseFieldDescriptor (TX1 k).2.2.1 = some (tyX1 k) := by decide +kernel
abbrev cX1_init : ByteArray := prog_3_method_1_code
def yX1_init : MethodName := ⟨RX1, "<init>", "(LWorkedBack$Works;)V"⟩
abbrev cX1_seek : ByteArray := prog_3_method_2_code
def yX1_seek : MethodName := ⟨RX1, "seek", "()V"⟩
abbrev cX1_partnerOf : ByteArray := prog_3_method_3_code
def yX1_partnerOf : MethodName := ⟨RX1, "partnerOf", "(I)I"⟩
abbrev cX1_hasLaters : ByteArray := prog_3_method_4_code
def yX1_hasLaters : MethodName := ⟨RX1, "hasLaters", "(II)Z"⟩
abbrev cX1_latersOf : ByteArray := prog_3_method_5_code
def yX1_latersOf : MethodName := ⟨RX1, "latersOf", "(III)I"⟩
abbrev cX1_latersWith : ByteArray := prog_3_method_6_code
def yX1_latersWith : MethodName := ⟨RX1, "latersWith", "(IIIII)I"⟩
abbrev cX1_hasStarts : ByteArray := prog_3_method_7_code
def yX1_hasStarts : MethodName := ⟨RX1, "hasStarts", "(I)Z"⟩
abbrev cX1_isFound : ByteArray := prog_3_method_8_code
def yX1_isFound : MethodName := ⟨RX1, "isFound", "(I)Z"⟩
abbrev cX1_isFoundFrom : ByteArray := prog_3_method_9_code
def yX1_isFoundFrom : MethodName := ⟨RX1, "isFoundFrom", "(II)Z"⟩
def RX2 : String := "WorkedBack$Course"
def TX2 : u_T := fun k => match k with
  | 0 => ("WorkedBack$Course", "room", "I", true)
  | 1 => ("WorkedBack$Course", "need", "[I", true)
  | 2 => ("WorkedBack$Course", "ownNeeds", "[I", true)
  | 3 => ("WorkedBack$Course", "guestNeeds", "[I", true)
  | 4 => ("WorkedBack$Course", "ahead", "[I", true)
  | 5 => ("WorkedBack$Course", "onward", "[I", true)
  | 6 => ("WorkedBack$Course", "mesh", "LWorkedBack$Mesh;", true)
  | 7 => ("WorkedBack$Course", "thing", "I", false)
  | 8 => ("WorkedBack$Course", "guest", "I", false)
  | _ => ("WorkedBack$Course", "keys", "I", false)
def tyX2 : Nat → FieldType := fun k => match k with
  | 0 => .int
  | 1 => .array .int
  | 2 => .array .int
  | 3 => .array .int
  | 4 => .array .int
  | 5 => .array .int
  | 6 => .object "WorkedBack$Mesh"
  | 7 => .int
  | 8 => .int
  | _ => .int
abbrev wsX20 : List Cond := u_ws RX2 TX2 10
theorem nmX2 : ∀ a, a < 10 → ∀ b, b < 10 → a ≠ b → (TX2 a).2.1 ≠ (TX2 b).2.1 := by decide +kernel
theorem tyX2_ok : ∀ k, k < 10 → parseFieldDescriptor (TX2 k).2.2.1 = some (tyX2 k) := by decide +kernel
abbrev cX2_init : ByteArray := prog_4_method_1_code
def yX2_init : MethodName := ⟨RX2, "<init>", "(LWorkedBack$Parts;I)V"⟩
abbrev cX2_set : ByteArray := prog_4_method_2_code
def yX2_set : MethodName := ⟨RX2, "set", "(LWorkedBack$Book;II)V"⟩
abbrev cX2_setNeeds : ByteArray := prog_4_method_3_code
def yX2_setNeeds : MethodName := ⟨RX2, "setNeeds", "(LWorkedBack$Book;I)V"⟩
abbrev cX2_strain : ByteArray := prog_4_method_4_code
def yX2_strain : MethodName := ⟨RX2, "strain", "(LWorkedBack$Flow;)V"⟩
abbrev cX2_goesThrough : ByteArray := prog_4_method_5_code
def yX2_goesThrough : MethodName := ⟨RX2, "goesThrough", "(LWorkedBack$Flow;I)Z"⟩
abbrev cX2_chart : ByteArray := prog_4_method_6_code
def yX2_chart : MethodName := ⟨RX2, "chart", "(LWorkedBack$Flow;)V"⟩
abbrev cX2_chartAhead : ByteArray := prog_4_method_7_code
def yX2_chartAhead : MethodName := ⟨RX2, "chartAhead", "(LWorkedBack$Flow;I)V"⟩
abbrev cX2_chartOnward : ByteArray := prog_4_method_8_code
def yX2_chartOnward : MethodName := ⟨RX2, "chartOnward", "(LWorkedBack$Flow;I)V"⟩
abbrev cX2_needAt : ByteArray := prog_4_method_9_code
def yX2_needAt : MethodName := ⟨RX2, "needAt", "(II)I"⟩
abbrev cX2_aheadOf : ByteArray := prog_4_method_10_code
def yX2_aheadOf : MethodName := ⟨RX2, "aheadOf", "(II)I"⟩
abbrev cX2_onwardFrom : ByteArray := prog_4_method_11_code
def yX2_onwardFrom : MethodName := ⟨RX2, "onwardFrom", "(II)I"⟩
abbrev cX2_isPlace : ByteArray := prog_4_method_12_code
def yX2_isPlace : MethodName := ⟨RX2, "isPlace", "(II)Z"⟩
abbrev cX2_onwardPairs : ByteArray := prog_4_method_13_code
def yX2_onwardPairs : MethodName := ⟨RX2, "onwardPairs", "(IIIII)I"⟩
def RX3 : String := "WorkedBack$Flow"
def TX3 : u_T := fun k => match k with
  | 0 => ("WorkedBack$Flow", "months", "I", false)
  | 1 => ("WorkedBack$Flow", "leastIn", "[I", true)
  | 2 => ("WorkedBack$Flow", "mostIn", "[I", true)
  | 3 => ("WorkedBack$Flow", "firstLeast", "I", false)
  | 4 => ("WorkedBack$Flow", "firstMost", "I", false)
  | 5 => ("WorkedBack$Flow", "holds", "I", false)
  | 6 => ("WorkedBack$Flow", "lost", "I", false)
  | 7 => ("WorkedBack$Flow", "low", "I", false)
  | _ => ("WorkedBack$Flow", "high", "I", false)
def tyX3 : Nat → FieldType := fun k => match k with
  | 0 => .int
  | 1 => .array .int
  | 2 => .array .int
  | 3 => .int
  | 4 => .int
  | 5 => .int
  | 6 => .int
  | 7 => .int
  | _ => .int
abbrev wsX30 : List Cond := u_ws RX3 TX3 9
theorem nmX3 : ∀ a, a < 9 → ∀ b, b < 9 → a ≠ b → (TX3 a).2.1 ≠ (TX3 b).2.1 := by decide +kernel
theorem tyX3_ok : ∀ k, k < 9 → parseFieldDescriptor (TX3 k).2.2.1 = some (tyX3 k) := by decide +kernel
abbrev cX3_init : ByteArray := prog_5_method_1_code
def yX3_init : MethodName := ⟨RX3, "<init>", "()V"⟩
abbrev cX3_set : ByteArray := prog_5_method_2_code
def yX3_set : MethodName := ⟨RX3, "set", "(LWorkedBack$Book;III)V"⟩
abbrev cX3_begin : ByteArray := prog_5_method_3_code
def yX3_begin : MethodName := ⟨RX3, "begin", "()V"⟩
abbrev cX3_go : ByteArray := prog_5_method_4_code
def yX3_go : MethodName := ⟨RX3, "go", "(II)Z"⟩
abbrev cX3_beginBehind : ByteArray := prog_5_method_5_code
def yX3_beginBehind : MethodName := ⟨RX3, "beginBehind", "()V"⟩
abbrev cX3_goBack : ByteArray := prog_5_method_6_code
def yX3_goBack : MethodName := ⟨RX3, "goBack", "(II)Z"⟩
def RX4 : String := "WorkedBack$Mesh"
def TX4 : u_T := fun k => match k with
  | 0 => ("WorkedBack$Mesh", "parts", "LWorkedBack$Parts;", true)
  | 1 => ("WorkedBack$Mesh", "low", "[J", true)
  | 2 => ("WorkedBack$Mesh", "high", "[J", true)
  | 3 => ("WorkedBack$Mesh", "thing", "I", false)
  | _ => ("WorkedBack$Mesh", "other", "I", false)
def tyX4 : Nat → FieldType := fun k => match k with
  | 0 => .object "WorkedBack$Parts"
  | 1 => .array .long
  | 2 => .array .long
  | 3 => .int
  | _ => .int
abbrev wsX40 : List Cond := u_ws RX4 TX4 5
theorem nmX4 : ∀ a, a < 5 → ∀ b, b < 5 → a ≠ b → (TX4 a).2.1 ≠ (TX4 b).2.1 := by decide +kernel
theorem tyX4_ok : ∀ k, k < 5 → parseFieldDescriptor (TX4 k).2.2.1 = some (tyX4 k) := by decide +kernel
abbrev cX4_init : ByteArray := prog_6_method_1_code
def yX4_init : MethodName := ⟨RX4, "<init>", "(LWorkedBack$Parts;)V"⟩
abbrev cX4_close : ByteArray := prog_6_method_2_code
def yX4_close : MethodName := ⟨RX4, "close", "(II)V"⟩
abbrev cX4_pass : ByteArray := prog_6_method_3_code
def yX4_pass : MethodName := ⟨RX4, "pass", "(II)V"⟩
abbrev cX4_narrow : ByteArray := prog_6_method_4_code
def yX4_narrow : MethodName := ⟨RX4, "narrow", "(LWorkedBack$Mixtures;)V"⟩
def RX5 : String := "WorkedBack$Mixtures"
def TX5 : u_T := fun k => match k with
  | _ => ("WorkedBack$Mixtures", "words", "[J", true)
def tyX5 : Nat → FieldType := fun k => match k with
  | _ => .array .long
abbrev wsX50 : List Cond := u_ws RX5 TX5 1
theorem nmX5 : ∀ a, a < 1 → ∀ b, b < 1 → a ≠ b → (TX5 a).2.1 ≠ (TX5 b).2.1 := by decide +kernel
theorem tyX5_ok : ∀ k, k < 1 → parseFieldDescriptor (TX5 k).2.2.1 = some (tyX5 k) := by decide +kernel
abbrev cX5_init : ByteArray := prog_7_method_1_code
def yX5_init : MethodName := ⟨RX5, "<init>", "()V"⟩
abbrev cX5_low : ByteArray := prog_7_method_2_code
def yX5_low : MethodName := ⟨RX5, "low", "(I)J"⟩
abbrev cX5_high : ByteArray := prog_7_method_3_code
def yX5_high : MethodName := ⟨RX5, "high", "(I)J"⟩
abbrev cX5_addAll : ByteArray := prog_7_method_4_code
def yX5_addAll : MethodName := ⟨RX5, "addAll", "()V"⟩
abbrev cX5_removeAll : ByteArray := prog_7_method_5_code
def yX5_removeAll : MethodName := ⟨RX5, "removeAll", "()V"⟩
abbrev cX5_copy : ByteArray := prog_7_method_6_code
def yX5_copy : MethodName := ⟨RX5, "copy", "(LWorkedBack$Mixtures;)V"⟩
abbrev cX5_join : ByteArray := prog_7_method_7_code
def yX5_join : MethodName := ⟨RX5, "join", "(LWorkedBack$Mixtures;)V"⟩
abbrev cX5_narrow : ByteArray := prog_7_method_8_code
def yX5_narrow : MethodName := ⟨RX5, "narrow", "(IJJ)V"⟩
abbrev cX5_has : ByteArray := prog_7_method_9_code
def yX5_has : MethodName := ⟨RX5, "has", "(I)Z"⟩
abbrev cX5_count : ByteArray := prog_7_method_10_code
def yX5_count : MethodName := ⟨RX5, "count", "()I"⟩
abbrev cX5_next : ByteArray := prog_7_method_11_code
def yX5_next : MethodName := ⟨RX5, "next", "(I)I"⟩
abbrev cX5_nth : ByteArray := prog_7_method_12_code
def yX5_nth : MethodName := ⟨RX5, "nth", "(I)I"⟩
abbrev cX5_withoutLowest : ByteArray := prog_7_method_13_code
def yX5_withoutLowest : MethodName := ⟨RX5, "withoutLowest", "(JI)J"⟩
abbrev cX5_wordOf : ByteArray := prog_7_method_14_code
def yX5_wordOf : MethodName := ⟨RX5, "wordOf", "(I)I"⟩
abbrev cX5_bitOf : ByteArray := prog_7_method_15_code
def yX5_bitOf : MethodName := ⟨RX5, "bitOf", "(I)I"⟩
abbrev cX5_numberOf : ByteArray := prog_7_method_16_code
def yX5_numberOf : MethodName := ⟨RX5, "numberOf", "(IJ)I"⟩
def RX6 : String := "WorkedBack$Parts"
def TX6 : u_T := fun k => match k with
  | 0 => ("WorkedBack$Parts", "low", "[J", true)
  | 1 => ("WorkedBack$Parts", "high", "[J", true)
  | 2 => ("WorkedBack$Parts", "fewLow", "[J", true)
  | _ => ("WorkedBack$Parts", "fewHigh", "[J", true)
def tyX6 : Nat → FieldType := fun k => match k with
  | 0 => .array .long
  | 1 => .array .long
  | 2 => .array .long
  | _ => .array .long
abbrev wsX60 : List Cond := u_ws RX6 TX6 4
theorem nmX6 : ∀ a, a < 4 → ∀ b, b < 4 → a ≠ b → (TX6 a).2.1 ≠ (TX6 b).2.1 := by decide +kernel
theorem tyX6_ok : ∀ k, k < 4 → parseFieldDescriptor (TX6 k).2.2.1 = some (tyX6 k) := by decide +kernel
abbrev cX6_init : ByteArray := prog_8_method_1_code
def yX6_init : MethodName := ⟨RX6, "<init>", "()V"⟩
abbrev cX6_lowWith : ByteArray := prog_8_method_2_code
def yX6_lowWith : MethodName := ⟨RX6, "lowWith", "(II)J"⟩
abbrev cX6_highWith : ByteArray := prog_8_method_3_code
def yX6_highWith : MethodName := ⟨RX6, "highWith", "(II)J"⟩
abbrev cX6_lowOfThings : ByteArray := prog_8_method_4_code
def yX6_lowOfThings : MethodName := ⟨RX6, "lowOfThings", "(I)J"⟩
abbrev cX6_highOfThings : ByteArray := prog_8_method_5_code
def yX6_highOfThings : MethodName := ⟨RX6, "highOfThings", "(I)J"⟩
def RX7 : String := "WorkedBack$Search"
def TX7 : u_T := fun k => match k with
  | 0 => ("WorkedBack$Search", "works", "LWorkedBack$Works;", true)
  | 1 => ("WorkedBack$Search", "nearTurn", "I", false)
  | 2 => ("WorkedBack$Search", "nearBy", "I", false)
  | 3 => ("WorkedBack$Search", "nearFirst", "I", false)
  | 4 => ("WorkedBack$Search", "doubtTurn", "I", false)
  | 5 => ("WorkedBack$Search", "doubtBits", "I", false)
  | _ => ("WorkedBack$Search", "doubtFirst", "I", false)
def tyX7 : Nat → FieldType := fun k => match k with
  | 0 => .object "WorkedBack$Works"
  | 1 => .int
  | 2 => .int
  | 3 => .int
  | 4 => .int
  | 5 => .int
  | _ => .int
abbrev wsX70 : List Cond := u_ws RX7 TX7 7
theorem nmX7 : ∀ a, a < 7 → ∀ b, b < 7 → a ≠ b → (TX7 a).2.1 ≠ (TX7 b).2.1 := by decide +kernel
theorem tyX7_ok : ∀ k, k < 7 → parseFieldDescriptor (TX7 k).2.2.1 = some (tyX7 k) := by decide +kernel
abbrev cX7_init : ByteArray := prog_9_method_1_code
def yX7_init : MethodName := ⟨RX7, "<init>", "(LWorkedBack$Works;)V"⟩
abbrev cX7_seekNear : ByteArray := prog_9_method_2_code
def yX7_seekNear : MethodName := ⟨RX7, "seekNear", "()V"⟩
abbrev cX7_leastMore : ByteArray := prog_9_method_3_code
def yX7_leastMore : MethodName := ⟨RX7, "leastMore", "()I"⟩
abbrev cX7_seekDoubt : ByteArray := prog_9_method_4_code
def yX7_seekDoubt : MethodName := ⟨RX7, "seekDoubt", "()V"⟩
abbrev cX7_seekDoubtOf : ByteArray := prog_9_method_5_code
def yX7_seekDoubtOf : MethodName := ⟨RX7, "seekDoubtOf", "(I)V"⟩
def RX8 : String := "WorkedBack$Text"
def TX8 : u_T := fun k => match k with
  | 0 => ("WorkedBack$Text", "signs", "[I", true)
  | 1 => ("WorkedBack$Text", "count", "I", false)
  | 2 => ("WorkedBack$Text", "both", "LWorkedBack$Mixtures;", true)
  | 3 => ("WorkedBack$Text", "timesInP", "[I", true)
  | 4 => ("WorkedBack$Text", "timesInQ", "[I", true)
  | 5 => ("WorkedBack$Text", "belowLow", "[J", true)
  | 6 => ("WorkedBack$Text", "belowHigh", "[J", true)
  | 7 => ("WorkedBack$Text", "ware", "I", false)
  | 8 => ("WorkedBack$Text", "relation", "I", false)
  | _ => ("WorkedBack$Text", "number", "I", false)
def tyX8 : Nat → FieldType := fun k => match k with
  | 0 => .array .int
  | 1 => .int
  | 2 => .object "WorkedBack$Mixtures"
  | 3 => .array .int
  | 4 => .array .int
  | 5 => .array .long
  | 6 => .array .long
  | 7 => .int
  | 8 => .int
  | _ => .int
abbrev wsX80 : List Cond := u_ws RX8 TX8 10
theorem nmX8 : ∀ a, a < 10 → ∀ b, b < 10 → a ≠ b → (TX8 a).2.1 ≠ (TX8 b).2.1 := by decide +kernel
theorem tyX8_ok : ∀ k, k < 10 → parseFieldDescriptor (TX8 k).2.2.1 = some (tyX8 k) := by decide +kernel
abbrev cX8_init : ByteArray := prog_10_method_1_code
def yX8_init : MethodName := ⟨RX8, "<init>", "()V"⟩
abbrev cX8_add : ByteArray := prog_10_method_2_code
def yX8_add : MethodName := ⟨RX8, "add", "(I)Z"⟩
abbrev cX8_empty : ByteArray := prog_10_method_3_code
def yX8_empty : MethodName := ⟨RX8, "empty", "()I"⟩
abbrev cX8_firstFault : ByteArray := prog_10_method_4_code
def yX8_firstFault : MethodName := ⟨RX8, "firstFault", "()I"⟩
abbrev cX8_behind : ByteArray := prog_10_method_5_code
def yX8_behind : MethodName := ⟨RX8, "behind", "(II)I"⟩
abbrev cX8_isDigit : ByteArray := prog_10_method_6_code
def yX8_isDigit : MethodName := ⟨RX8, "isDigit", "(I)Z"⟩
abbrev cX8_isRelation : ByteArray := prog_10_method_7_code
def yX8_isRelation : MethodName := ⟨RX8, "isRelation", "(I)Z"⟩
abbrev cX8_isLink : ByteArray := prog_10_method_8_code
def yX8_isLink : MethodName := ⟨RX8, "isLink", "(I)Z"⟩
abbrev cX8_collect : ByteArray := prog_10_method_9_code
def yX8_collect : MethodName := ⟨RX8, "collect", "(LWorkedBack$Mixtures;)I"⟩
abbrev cX8_beginTest : ByteArray := prog_10_method_10_code
def yX8_beginTest : MethodName := ⟨RX8, "beginTest", "()V"⟩
abbrev cX8_readOn : ByteArray := prog_10_method_11_code
def yX8_readOn : MethodName := ⟨RX8, "readOn", "(I)V"⟩
abbrev cX8_endTest : ByteArray := prog_10_method_12_code
def yX8_endTest : MethodName := ⟨RX8, "endTest", "()V"⟩
abbrev cX8_setBelow : ByteArray := prog_10_method_13_code
def yX8_setBelow : MethodName := ⟨RX8, "setBelow", "()V"⟩
abbrev cX8_sumOf : ByteArray := prog_10_method_14_code
def yX8_sumOf : MethodName := ⟨RX8, "sumOf", "([II)I"⟩
abbrev cX8_narrowBoth : ByteArray := prog_10_method_15_code
def yX8_narrowBoth : MethodName := ⟨RX8, "narrowBoth", "(II)V"⟩
def RX9 : String := "WorkedBack$Weighing"
def TX9 : u_T := fun k => match k with
  | 0 => ("WorkedBack$Weighing", "works", "LWorkedBack$Works;", true)
  | 1 => ("WorkedBack$Weighing", "others", "LWorkedBack$Mixtures;", true)
  | 2 => ("WorkedBack$Weighing", "weights", "[I", true)
  | 3 => ("WorkedBack$Weighing", "counts", "[I", true)
  | 4 => ("WorkedBack$Weighing", "mosts", "[I", true)
  | 5 => ("WorkedBack$Weighing", "fitting", "[I", true)
  | _ => ("WorkedBack$Weighing", "turn", "I", false)
def tyX9 : Nat → FieldType := fun k => match k with
  | 0 => .object "WorkedBack$Works"
  | 1 => .object "WorkedBack$Mixtures"
  | 2 => .array .int
  | 3 => .array .int
  | 4 => .array .int
  | 5 => .array .int
  | _ => .int
abbrev wsX90 : List Cond := u_ws RX9 TX9 7
theorem nmX9 : ∀ a, a < 7 → ∀ b, b < 7 → a ≠ b → (TX9 a).2.1 ≠ (TX9 b).2.1 := by decide +kernel
theorem tyX9_ok : ∀ k, k < 7 → parseFieldDescriptor (TX9 k).2.2.1 = some (tyX9 k) := by decide +kernel
abbrev cX9_init : ByteArray := prog_11_method_1_code
def yX9_init : MethodName := ⟨RX9, "<init>", "(LWorkedBack$Works;)V"⟩
abbrev cX9_settling : ByteArray := prog_11_method_2_code
def yX9_settling : MethodName := ⟨RX9, "settling", "()I"⟩
abbrev cX9_mostLeft : ByteArray := prog_11_method_3_code
def yX9_mostLeft : MethodName := ⟨RX9, "mostLeft", "(I)I"⟩
abbrev cX9_hiding : ByteArray := prog_11_method_4_code
def yX9_hiding : MethodName := ⟨RX9, "hiding", "(I)I"⟩
abbrev cX9_isBetter : ByteArray := prog_11_method_5_code
def yX9_isBetter : MethodName := ⟨RX9, "isBetter", "(IIII)Z"⟩
abbrev cX9_hidden : ByteArray := prog_11_method_6_code
def yX9_hidden : MethodName := ⟨RX9, "hidden", "(I)I"⟩
abbrev cX9_weighAll : ByteArray := prog_11_method_7_code
def yX9_weighAll : MethodName := ⟨RX9, "weighAll", "()V"⟩
abbrev cX9_weigh : ByteArray := prog_11_method_8_code
def yX9_weigh : MethodName := ⟨RX9, "weigh", "(LWorkedBack$Course;II)V"⟩
abbrev cX9_count : ByteArray := prog_11_method_9_code
def yX9_count : MethodName := ⟨RX9, "count", "(LWorkedBack$Course;IIII)V"⟩
abbrev cX9_countKey : ByteArray := prog_11_method_10_code
def yX9_countKey : MethodName := ⟨RX9, "countKey", "(LWorkedBack$Course;IIIII)V"⟩
abbrev cX9_setWeights : ByteArray := prog_11_method_11_code
def yX9_setWeights : MethodName := ⟨RX9, "setWeights", "(I)V"⟩
abbrev cX9_addWeights : ByteArray := prog_11_method_12_code
def yX9_addWeights : MethodName := ⟨RX9, "addWeights", "(III)V"⟩
abbrev cX9_addGuestWeights : ByteArray := prog_11_method_13_code
def yX9_addGuestWeights : MethodName := ⟨RX9, "addGuestWeights", "(IIIJJ)V"⟩
def RX10 : String := "WorkedBack$Works"
def TX10 : u_T := fun k => match k with
  | 0 => ("WorkedBack$Works", "book", "LWorkedBack$Book;", true)
  | 1 => ("WorkedBack$Works", "parts", "LWorkedBack$Parts;", true)
  | 2 => ("WorkedBack$Works", "flow", "LWorkedBack$Flow;", true)
  | 3 => ("WorkedBack$Works", "narrow", "[LWorkedBack$Course;", true)
  | 4 => ("WorkedBack$Works", "wide", "LWorkedBack$Course;", true)
  | 5 => ("WorkedBack$Works", "fitting", "LWorkedBack$Mixtures;", true)
  | 6 => ("WorkedBack$Works", "tried", "LWorkedBack$Mixtures;", true)
  | 7 => ("WorkedBack$Works", "madeLow", "[J", true)
  | 8 => ("WorkedBack$Works", "madeHigh", "[J", true)
  | 9 => ("WorkedBack$Works", "holder", "I", false)
  | 10 => ("WorkedBack$Works", "turn", "I", false)
  | 11 => ("WorkedBack$Works", "chartTurn", "I", false)
  | _ => ("WorkedBack$Works", "meshTurn", "I", false)
def tyX10 : Nat → FieldType := fun k => match k with
  | 0 => .object "WorkedBack$Book"
  | 1 => .object "WorkedBack$Parts"
  | 2 => .object "WorkedBack$Flow"
  | 3 => .array (.object "WorkedBack$Course")
  | 4 => .object "WorkedBack$Course"
  | 5 => .object "WorkedBack$Mixtures"
  | 6 => .object "WorkedBack$Mixtures"
  | 7 => .array .long
  | 8 => .array .long
  | 9 => .int
  | 10 => .int
  | 11 => .int
  | _ => .int
abbrev wsX100 : List Cond := u_ws RX10 TX10 13
theorem nmX10 : ∀ a, a < 13 → ∀ b, b < 13 → a ≠ b → (TX10 a).2.1 ≠ (TX10 b).2.1 := by decide +kernel
theorem tyX10_ok : ∀ k, k < 13 → parseFieldDescriptor (TX10 k).2.2.1 = some (tyX10 k) := by decide +kernel
abbrev cX10_init : ByteArray := prog_12_method_1_code
def yX10_init : MethodName := ⟨RX10, "<init>", "(LWorkedBack$Book;)V"⟩
abbrev cX10_course : ByteArray := prog_12_method_2_code
def yX10_course : MethodName := ⟨RX10, "course", "(I)LWorkedBack$Course;"⟩
abbrev cX10_update : ByteArray := prog_12_method_3_code
def yX10_update : MethodName := ⟨RX10, "update", "()V"⟩
abbrev cX10_strain : ByteArray := prog_12_method_4_code
def yX10_strain : MethodName := ⟨RX10, "strain", "()V"⟩
abbrev cX10_firstBy : ByteArray := prog_12_method_5_code
def yX10_firstBy : MethodName := ⟨RX10, "firstBy", "(II)I"⟩
abbrev cX10_sift : ByteArray := prog_12_method_6_code
def yX10_sift : MethodName := ⟨RX10, "sift", "(LWorkedBack$Mixtures;I)V"⟩
abbrev cX10_chart : ByteArray := prog_12_method_7_code
def yX10_chart : MethodName := ⟨RX10, "chart", "()V"⟩
abbrev cX10_first : ByteArray := prog_12_method_8_code
def yX10_first : MethodName := ⟨RX10, "first", "()I"⟩
abbrev cX10_goesTill : ByteArray := prog_12_method_9_code
def yX10_goesTill : MethodName := ⟨RX10, "goesTill", "(III)I"⟩
abbrev cX10_judged : ByteArray := prog_12_method_10_code
def yX10_judged : MethodName := ⟨RX10, "judged", "(I)I"⟩
abbrev cX10_setMade : ByteArray := prog_12_method_11_code
def yX10_setMade : MethodName := ⟨RX10, "setMade", "()V"⟩
abbrev cX10_amounts : ByteArray := prog_12_method_12_code
def yX10_amounts : MethodName := ⟨RX10, "amounts", "(II)I"⟩
abbrev cX10_inEvery : ByteArray := prog_12_method_13_code
def yX10_inEvery : MethodName := ⟨RX10, "inEvery", "()I"⟩
abbrev cX10_inNone : ByteArray := prog_12_method_14_code
def yX10_inNone : MethodName := ⟨RX10, "inNone", "()I"⟩
abbrev cX10_plainest : ByteArray := prog_12_method_15_code
def yX10_plainest : MethodName := ⟨RX10, "plainest", "()I"⟩
abbrev cX10_firstWith : ByteArray := prog_12_method_16_code
def yX10_firstWith : MethodName := ⟨RX10, "firstWith", "(II)I"⟩
abbrev cX10_endOfPrices : ByteArray := prog_12_method_17_code
def yX10_endOfPrices : MethodName := ⟨RX10, "endOfPrices", "(III)I"⟩
abbrev cX10_pairs : ByteArray := prog_12_method_18_code
def yX10_pairs : MethodName := ⟨RX10, "pairs", "(I)I"⟩
def RX11 : String := "WorkedBack"
def TX11 : u_T := fun k => match k with
  | 0 => ("WorkedBack", "book", "LWorkedBack$Book;", true)
  | 1 => ("WorkedBack", "images", "[LWorkedBack$Book;", true)
  | 2 => ("WorkedBack", "imaged", "[Z", true)
  | 3 => ("WorkedBack", "text", "LWorkedBack$Text;", true)
  | 4 => ("WorkedBack", "works", "LWorkedBack$Works;", true)
  | 5 => ("WorkedBack", "search", "LWorkedBack$Search;", true)
  | 6 => ("WorkedBack", "broken", "LWorkedBack$Break;", true)
  | _ => ("WorkedBack", "weighing", "LWorkedBack$Weighing;", true)
def tyX11 : Nat → FieldType := fun k => match k with
  | 0 => .object "WorkedBack$Book"
  | 1 => .array (.object "WorkedBack$Book")
  | 2 => .array .boolean
  | 3 => .object "WorkedBack$Text"
  | 4 => .object "WorkedBack$Works"
  | 5 => .object "WorkedBack$Search"
  | 6 => .object "WorkedBack$Break"
  | _ => .object "WorkedBack$Weighing"
abbrev wsX110 : List Cond := u_ws RX11 TX11 8
theorem nmX11 : ∀ a, a < 8 → ∀ b, b < 8 → a ≠ b → (TX11 a).2.1 ≠ (TX11 b).2.1 := by decide +kernel
theorem tyX11_ok : ∀ k, k < 8 → parseFieldDescriptor (TX11 k).2.2.1 = some (tyX11 k) := by decide +kernel
abbrev cX11_init : ByteArray := prog_1_method_1_code
def yX11_init : MethodName := ⟨RX11, "<init>", "()V"⟩
abbrev cX11_month : ByteArray := prog_1_method_2_code
def yX11_month : MethodName := ⟨RX11, "month", "(IIIIII)I"⟩
abbrev cX11_change : ByteArray := prog_1_method_3_code
def yX11_change : MethodName := ⟨RX11, "change", "(III)I"⟩
abbrev cX11_about : ByteArray := prog_1_method_4_code
def yX11_about : MethodName := ⟨RX11, "about", "(II)I"⟩
abbrev cX11_tear : ByteArray := prog_1_method_5_code
def yX11_tear : MethodName := ⟨RX11, "tear", "()I"⟩
abbrev cX11_stock : ByteArray := prog_1_method_6_code
def yX11_stock : MethodName := ⟨RX11, "stock", "(III)I"⟩
abbrev cX11_stand : ByteArray := prog_1_method_7_code
def yX11_stand : MethodName := ⟨RX11, "stand", "(II)I"⟩
abbrev cX11_say : ByteArray := prog_1_method_8_code
def yX11_say : MethodName := ⟨RX11, "say", "(I)I"⟩
abbrev cX11_wipe : ByteArray := prog_1_method_9_code
def yX11_wipe : MethodName := ⟨RX11, "wipe", "()I"⟩
abbrev cX11_fault : ByteArray := prog_1_method_10_code
def yX11_fault : MethodName := ⟨RX11, "fault", "()I"⟩
abbrev cX11_rule : ByteArray := prog_1_method_11_code
def yX11_rule : MethodName := ⟨RX11, "rule", "()I"⟩
abbrev cX11_free : ByteArray := prog_1_method_12_code
def yX11_free : MethodName := ⟨RX11, "free", "()I"⟩
abbrev cX11_fits : ByteArray := prog_1_method_13_code
def yX11_fits : MethodName := ⟨RX11, "fits", "(II)I"⟩
abbrev cX11_needs : ByteArray := prog_1_method_14_code
def yX11_needs : MethodName := ⟨RX11, "needs", "(III)I"⟩
abbrev cX11_judge : ByteArray := prog_1_method_15_code
def yX11_judge : MethodName := ⟨RX11, "judge", "(II)I"⟩
abbrev cX11_lies : ByteArray := prog_1_method_16_code
def yX11_lies : MethodName := ⟨RX11, "lies", "(IIII)I"⟩
abbrev cX11_all : ByteArray := prog_1_method_17_code
def yX11_all : MethodName := ⟨RX11, "all", "(I)I"⟩
abbrev cX11_ends : ByteArray := prog_1_method_18_code
def yX11_ends : MethodName := ⟨RX11, "ends", "(III)I"⟩
abbrev cX11_must : ByteArray := prog_1_method_19_code
def yX11_must : MethodName := ⟨RX11, "must", "(I)I"⟩
abbrev cX11_plain : ByteArray := prog_1_method_20_code
def yX11_plain : MethodName := ⟨RX11, "plain", "(I)I"⟩
abbrev cX11_near : ByteArray := prog_1_method_21_code
def yX11_near : MethodName := ⟨RX11, "near", "(I)I"⟩
abbrev cX11_doubt : ByteArray := prog_1_method_22_code
def yX11_doubt : MethodName := ⟨RX11, "doubt", "(I)I"⟩
abbrev cX11_changed : ByteArray := prog_1_method_23_code
def yX11_changed : MethodName := ⟨RX11, "changed", "(I)I"⟩
abbrev cX11_cost : ByteArray := prog_1_method_24_code
def yX11_cost : MethodName := ⟨RX11, "cost", "(III)I"⟩
abbrev cX11_costs : ByteArray := prog_1_method_25_code
def yX11_costs : MethodName := ⟨RX11, "costs", "(III)I"⟩
abbrev cX11_buy : ByteArray := prog_1_method_26_code
def yX11_buy : MethodName := ⟨RX11, "buy", "(IIII)I"⟩
abbrev cX11_settle : ByteArray := prog_1_method_27_code
def yX11_settle : MethodName := ⟨RX11, "settle", "(I)I"⟩
abbrev cX11_hide : ByteArray := prog_1_method_28_code
def yX11_hide : MethodName := ⟨RX11, "hide", "(II)I"⟩
abbrev cX11_image : ByteArray := prog_1_method_29_code
def yX11_image : MethodName := ⟨RX11, "image", "(I)I"⟩
abbrev cX11_restore : ByteArray := prog_1_method_30_code
def yX11_restore : MethodName := ⟨RX11, "restore", "(I)I"⟩
abbrev cX11_told : ByteArray := prog_1_method_31_code
def yX11_told : MethodName := ⟨RX11, "told", "(I)I"⟩
abbrev cX11_within : ByteArray := prog_1_method_32_code
def yX11_within : MethodName := ⟨RX11, "within", "(II)Z"⟩
abbrev cX11_isThing : ByteArray := prog_1_method_33_code
def yX11_isThing : MethodName := ⟨RX11, "isThing", "(I)Z"⟩
abbrev cX11_isWare : ByteArray := prog_1_method_34_code
def yX11_isWare : MethodName := ⟨RX11, "isWare", "(I)Z"⟩
abbrev cX11_isMixture : ByteArray := prog_1_method_35_code
def yX11_isMixture : MethodName := ⟨RX11, "isMixture", "(I)Z"⟩
abbrev cX11_isMonth : ByteArray := prog_1_method_36_code
def yX11_isMonth : MethodName := ⟨RX11, "isMonth", "(I)Z"⟩
abbrev cX11_amountIn : ByteArray := prog_1_method_37_code
def yX11_amountIn : MethodName := ⟨RX11, "amountIn", "(II)I"⟩
abbrev cX11_pairOf : ByteArray := prog_1_method_38_code
def yX11_pairOf : MethodName := ⟨RX11, "pairOf", "(II)I"⟩
abbrev cX11_withPair : ByteArray := prog_1_method_39_code
def yX11_withPair : MethodName := ⟨RX11, "withPair", "(III)I"⟩
abbrev cX11_thingsInPart : ByteArray := prog_1_method_40_code
def yX11_thingsInPart : MethodName := ⟨RX11, "thingsInPart", "(I)I"⟩
abbrev cX11_lowestPlace : ByteArray := prog_1_method_41_code
def yX11_lowestPlace : MethodName := ⟨RX11, "lowestPlace", "(J)I"⟩
abbrev cX11_highestPlace : ByteArray := prog_1_method_42_code
def yX11_highestPlace : MethodName := ⟨RX11, "highestPlace", "(I)I"⟩
abbrev cX11_endOfNeeds : ByteArray := prog_1_method_43_code
def yX11_endOfNeeds : MethodName := ⟨RX11, "endOfNeeds", "(IIII)I"⟩
abbrev cX11_spanOf : ByteArray := prog_1_method_44_code
def yX11_spanOf : MethodName := ⟨RX11, "spanOf", "(II)I"⟩
abbrev cX11_lowOf : ByteArray := prog_1_method_45_code
def yX11_lowOf : MethodName := ⟨RX11, "lowOf", "(I)I"⟩
abbrev cX11_highOf : ByteArray := prog_1_method_46_code
def yX11_highOf : MethodName := ⟨RX11, "highOf", "(I)I"⟩
def RX12 : String := "WorkedBackModel"
def TX12 : u_T := fun k => match k with
  | 0 => ("WorkedBackModel", "months", "I", false)
  | 1 => ("WorkedBackModel", "book", "[I", true)
  | 2 => ("WorkedBackModel", "stocks", "[I", true)
  | 3 => ("WorkedBackModel", "stands", "I", false)
  | 4 => ("WorkedBackModel", "other", "I", false)
  | 5 => ("WorkedBackModel", "signs", "I", false)
  | 6 => ("WorkedBackModel", "sign", "[I", true)
  | 7 => ("WorkedBackModel", "ruled", "I", false)
  | 8 => ("WorkedBackModel", "ruleSign", "[I", true)
  | 9 => ("WorkedBackModel", "isLaid", "Z", false)
  | 10 => ("WorkedBackModel", "more", "I", false)
  | 11 => ("WorkedBackModel", "doubted", "I", false)
  | 12 => ("WorkedBackModel", "triedMonth", "I", false)
  | 13 => ("WorkedBackModel", "triedThing", "I", false)
  | 14 => ("WorkedBackModel", "tried", "I", false)
  | 15 => ("WorkedBackModel", "low", "I", false)
  | 16 => ("WorkedBackModel", "high", "I", false)
  | 17 => ("WorkedBackModel", "agree", "[Z", true)
  | 18 => ("WorkedBackModel", "kept", "[Z", true)
  | 19 => ("WorkedBackModel", "fit", "[Z", true)
  | 20 => ("WorkedBackModel", "fitting", "I", false)
  | 21 => ("WorkedBackModel", "memo", "[B", true)
  | 22 => ("WorkedBackModel", "changedTo", "I", false)
  | 23 => ("WorkedBackModel", "open", "[I", true)
  | 24 => ("WorkedBackModel", "image", "[I", true)
  | _ => ("WorkedBackModel", "isKept", "[Z", true)
def tyX12 : Nat → FieldType := fun k => match k with
  | 0 => .int
  | 1 => .array .int
  | 2 => .array .int
  | 3 => .int
  | 4 => .int
  | 5 => .int
  | 6 => .array .int
  | 7 => .int
  | 8 => .array .int
  | 9 => .boolean
  | 10 => .int
  | 11 => .int
  | 12 => .int
  | 13 => .int
  | 14 => .int
  | 15 => .int
  | 16 => .int
  | 17 => .array .boolean
  | 18 => .array .boolean
  | 19 => .array .boolean
  | 20 => .int
  | 21 => .array .byte
  | 22 => .int
  | 23 => .array .int
  | 24 => .array .int
  | _ => .array .boolean
abbrev wsX120 : List Cond := u_ws RX12 TX12 26
theorem nmX12 : ∀ a, a < 26 → ∀ b, b < 26 → a ≠ b → (TX12 a).2.1 ≠ (TX12 b).2.1 := by decide +kernel
theorem tyX12_ok : ∀ k, k < 26 → parseFieldDescriptor (TX12 k).2.2.1 = some (tyX12 k) := by decide +kernel
abbrev cX12_init : ByteArray := prog_14_method_1_code
def yX12_init : MethodName := ⟨RX12, "<init>", "()V"⟩
abbrev cX12_in : ByteArray := prog_14_method_2_code
def yX12_in : MethodName := ⟨RX12, "in", "(III)Z"⟩
abbrev cX12_isThing : ByteArray := prog_14_method_3_code
def yX12_isThing : MethodName := ⟨RX12, "isThing", "(I)Z"⟩
abbrev cX12_isMonth : ByteArray := prog_14_method_4_code
def yX12_isMonth : MethodName := ⟨RX12, "isMonth", "(I)Z"⟩
abbrev cX12_isMixture : ByteArray := prog_14_method_5_code
def yX12_isMixture : MethodName := ⟨RX12, "isMixture", "(I)Z"⟩
abbrev cX12_mostOf : ByteArray := prog_14_method_6_code
def yX12_mostOf : MethodName := ⟨RX12, "mostOf", "(I)I"⟩
abbrev cX12_month : ByteArray := prog_14_method_7_code
def yX12_month : MethodName := ⟨RX12, "month", "(IIIIII)I"⟩
abbrev cX12_change : ByteArray := prog_14_method_8_code
def yX12_change : MethodName := ⟨RX12, "change", "(III)I"⟩
abbrev cX12_about : ByteArray := prog_14_method_9_code
def yX12_about : MethodName := ⟨RX12, "about", "(II)I"⟩
abbrev cX12_tear : ByteArray := prog_14_method_10_code
def yX12_tear : MethodName := ⟨RX12, "tear", "()I"⟩
abbrev cX12_stock : ByteArray := prog_14_method_11_code
def yX12_stock : MethodName := ⟨RX12, "stock", "(III)I"⟩
abbrev cX12_standOf : ByteArray := prog_14_method_12_code
def yX12_standOf : MethodName := ⟨RX12, "standOf", "()I"⟩
abbrev cX12_stand : ByteArray := prog_14_method_13_code
def yX12_stand : MethodName := ⟨RX12, "stand", "(II)I"⟩
abbrev cX12_say : ByteArray := prog_14_method_14_code
def yX12_say : MethodName := ⟨RX12, "say", "(I)I"⟩
abbrev cX12_wipe : ByteArray := prog_14_method_15_code
def yX12_wipe : MethodName := ⟨RX12, "wipe", "()I"⟩
abbrev cX12_faultOf : ByteArray := prog_14_method_16_code
def yX12_faultOf : MethodName := ⟨RX12, "faultOf", "()I"⟩
abbrev cX12_fault : ByteArray := prog_14_method_17_code
def yX12_fault : MethodName := ⟨RX12, "fault", "()I"⟩
abbrev cX12_boths : ByteArray := prog_14_method_18_code
def yX12_boths : MethodName := ⟨RX12, "boths", "()I"⟩
abbrev cX12_rule : ByteArray := prog_14_method_19_code
def yX12_rule : MethodName := ⟨RX12, "rule", "()I"⟩
abbrev cX12_free : ByteArray := prog_14_method_20_code
def yX12_free : MethodName := ⟨RX12, "free", "()I"⟩
abbrev cX12_digit : ByteArray := prog_14_method_21_code
def yX12_digit : MethodName := ⟨RX12, "digit", "(II)I"⟩
abbrev cX12_keeps : ByteArray := prog_14_method_22_code
def yX12_keeps : MethodName := ⟨RX12, "keeps", "(I)Z"⟩
abbrev cX12_isStoodIn : ByteArray := prog_14_method_23_code
def yX12_isStoodIn : MethodName := ⟨RX12, "isStoodIn", "(I)Z"⟩
abbrev cX12_needOf : ByteArray := prog_14_method_24_code
def yX12_needOf : MethodName := ⟨RX12, "needOf", "(IIII)I"⟩
abbrev cX12_pass : ByteArray := prog_14_method_25_code
def yX12_pass : MethodName := ⟨RX12, "pass", "(III)Z"⟩
abbrev cX12_goes : ByteArray := prog_14_method_26_code
def yX12_goes : MethodName := ⟨RX12, "goes", "(IIIIII)I"⟩
abbrev cX12_amount : ByteArray := prog_14_method_27_code
def yX12_amount : MethodName := ⟨RX12, "amount", "(II)I"⟩
abbrev cX12_goesBy : ByteArray := prog_14_method_28_code
def yX12_goesBy : MethodName := ⟨RX12, "goesBy", "(II)I"⟩
abbrev cX12_layThing : ByteArray := prog_14_method_29_code
def yX12_layThing : MethodName := ⟨RX12, "layThing", "(I)V"⟩
abbrev cX12_layThings : ByteArray := prog_14_method_30_code
def yX12_layThings : MethodName := ⟨RX12, "layThings", "()V"⟩
abbrev cX12_agreesWith : ByteArray := prog_14_method_31_code
def yX12_agreesWith : MethodName := ⟨RX12, "agreesWith", "(II)Z"⟩
abbrev cX12_agreesWithAll : ByteArray := prog_14_method_32_code
def yX12_agreesWithAll : MethodName := ⟨RX12, "agreesWithAll", "(I)Z"⟩
abbrev cX12_lay : ByteArray := prog_14_method_33_code
def yX12_lay : MethodName := ⟨RX12, "lay", "()I"⟩
abbrev cX12_fits : ByteArray := prog_14_method_34_code
def yX12_fits : MethodName := ⟨RX12, "fits", "(II)I"⟩
abbrev cX12_needs : ByteArray := prog_14_method_35_code
def yX12_needs : MethodName := ⟨RX12, "needs", "(III)I"⟩
abbrev cX12_judge : ByteArray := prog_14_method_36_code
def yX12_judge : MethodName := ⟨RX12, "judge", "(II)I"⟩
abbrev cX12_lies : ByteArray := prog_14_method_37_code
def yX12_lies : MethodName := ⟨RX12, "lies", "(IIII)I"⟩
abbrev cX12_all : ByteArray := prog_14_method_38_code
def yX12_all : MethodName := ⟨RX12, "all", "(I)I"⟩
abbrev cX12_ends : ByteArray := prog_14_method_39_code
def yX12_ends : MethodName := ⟨RX12, "ends", "(III)I"⟩
abbrev cX12_must : ByteArray := prog_14_method_40_code
def yX12_must : MethodName := ⟨RX12, "must", "(I)I"⟩
abbrev cX12_things : ByteArray := prog_14_method_41_code
def yX12_things : MethodName := ⟨RX12, "things", "(I)I"⟩
abbrev cX12_plain : ByteArray := prog_14_method_42_code
def yX12_plain : MethodName := ⟨RX12, "plain", "(I)I"⟩
abbrev cX12_firstNow : ByteArray := prog_14_method_43_code
def yX12_firstNow : MethodName := ⟨RX12, "firstNow", "()I"⟩
abbrev cX12_near : ByteArray := prog_14_method_44_code
def yX12_near : MethodName := ⟨RX12, "near", "(I)I"⟩
abbrev cX12_bits : ByteArray := prog_14_method_45_code
def yX12_bits : MethodName := ⟨RX12, "bits", "(I)I"⟩
abbrev cX12_doubt : ByteArray := prog_14_method_46_code
def yX12_doubt : MethodName := ⟨RX12, "doubt", "(I)I"⟩
abbrev cX12_agreesChanged : ByteArray := prog_14_method_47_code
def yX12_agreesChanged : MethodName := ⟨RX12, "agreesChanged", "(IIIII)Z"⟩
abbrev cX12_changedFrom : ByteArray := prog_14_method_48_code
def yX12_changedFrom : MethodName := ⟨RX12, "changedFrom", "(II)I"⟩
abbrev cX12_changed : ByteArray := prog_14_method_49_code
def yX12_changed : MethodName := ⟨RX12, "changed", "(I)I"⟩
abbrev cX12_costOf : ByteArray := prog_14_method_50_code
def yX12_costOf : MethodName := ⟨RX12, "costOf", "(III)I"⟩
abbrev cX12_cost : ByteArray := prog_14_method_51_code
def yX12_cost : MethodName := ⟨RX12, "cost", "(III)I"⟩
abbrev cX12_costs : ByteArray := prog_14_method_52_code
def yX12_costs : MethodName := ⟨RX12, "costs", "(III)I"⟩
abbrev cX12_buy : ByteArray := prog_14_method_53_code
def yX12_buy : MethodName := ⟨RX12, "buy", "(IIII)I"⟩
abbrev cX12_layOpen : ByteArray := prog_14_method_54_code
def yX12_layOpen : MethodName := ⟨RX12, "layOpen", "(I)V"⟩
abbrev cX12_countTried : ByteArray := prog_14_method_55_code
def yX12_countTried : MethodName := ⟨RX12, "countTried", "(I)I"⟩
abbrev cX12_settle : ByteArray := prog_14_method_56_code
def yX12_settle : MethodName := ⟨RX12, "settle", "(I)I"⟩
abbrev cX12_mostBy : ByteArray := prog_14_method_57_code
def yX12_mostBy : MethodName := ⟨RX12, "mostBy", "(II)I"⟩
abbrev cX12_hide : ByteArray := prog_14_method_58_code
def yX12_hide : MethodName := ⟨RX12, "hide", "(II)I"⟩
abbrev cX12_image : ByteArray := prog_14_method_59_code
def yX12_image : MethodName := ⟨RX12, "image", "(I)I"⟩
abbrev cX12_restore : ByteArray := prog_14_method_60_code
def yX12_restore : MethodName := ⟨RX12, "restore", "(I)I"⟩
abbrev cX12_told : ByteArray := prog_14_method_61_code
def yX12_told : MethodName := ⟨RX12, "told", "(I)I"⟩
def RJ6 : String := "java/lang/Integer"
abbrev cJ6_bitCount_0f7a4 : ByteArray := prog_15_method_49_code
def yJ6_bitCount_0f7a4 : MethodName := ⟨RJ6, "bitCount", "(I)I"⟩
def RJ13 : String := "java/lang/Long"
abbrev cJ13_bitCount_95d88 : ByteArray := prog_16_method_50_code
def yJ13_bitCount_95d88 : MethodName := ⟨RJ13, "bitCount", "(J)I"⟩
def RJ9 : String := "java/lang/Math"
abbrev cJ9_max_7cf53 : ByteArray := prog_17_method_65_code
def yJ9_max_7cf53 : MethodName := ⟨RJ9, "max", "(II)I"⟩
abbrev cJ9_min_7cf53 : ByteArray := prog_17_method_69_code
def yJ9_min_7cf53 : MethodName := ⟨RJ9, "min", "(II)I"⟩
def RJ10 : String := "java/lang/System"
def RL : String := "WorkedBackLaw"
abbrev cL_law : ByteArray := code
def yL_law : MethodName := ⟨RL, "law", "([I)Z"⟩
abbrev vwCl : List vw_C := [(RX0, TX0, 8), (RX1, TX1, 10), (RX2, TX2, 10), (RX3, TX3, 9), (RX4, TX4, 5), (RX5, TX5, 1), (RX6, TX6, 4), (RX7, TX7, 7), (RX8, TX8, 10), (RX9, TX9, 7), (RX10, TX10, 13), (RX11, TX11, 8), (RX12, TX12, 26)]
end
section
/-! ===== the pure machine: places instead of addresses, one world, one judgement 'wb_V' over the kit's W ===== -/
/-- an instruction: its place, what it is, the next place, the place that it may jump to -/
abbrev wb_O : Type := Nat × Instr × Nat × Nat
/-- a method: name, bytes, locals, what it returns, its room, its instructions -/
abbrev wb_MD : Type := MethodName × ByteArray × Nat × Option FieldType × Room × List wb_O
abbrev wb_nm (M : wb_MD) : MethodName := M.1
abbrev wb_by (M : wb_MD) : ByteArray := M.2.1
abbrev wb_ml (M : wb_MD) : Nat := M.2.2.1
abbrev wb_rt (M : wb_MD) : Option FieldType := M.2.2.2.1
abbrev wb_rm (M : wb_MD) : Room := M.2.2.2.2.1
abbrev wb_op (M : wb_MD) : List wb_O := M.2.2.2.2.2
def wb_GW : List Cond := lw_tbl.filter goodWord
def wb_isN : Cond → Bool
  | .fieldLinkNest .. => true
  | .methodLinkNest .. => true
  | _ => false
def wb_NW : List Cond := tables_1.filter wb_isN
def wb_len : Instr → Nat
  | .bipush _ => 2
  | .iload _ => 2
  | .lload _ => 2
  | .aload _ => 2
  | .istore _ => 2
  | .lstore _ => 2
  | .astore _ => 2
  | .ldc _ => 2
  | .newarray _ => 2
  | .sipush _ => 3
  | .iinc _ _ => 3
  | .if_icmp _ _ => 3
  | .ifCond _ _ => 3
  | .goto _ => 3
  | .getfield _ => 3
  | .putfield _ => 3
  | .getstatic _ => 3
  | .invokevirtual _ => 3
  | .invokespecial _ => 3
  | .invokestatic _ => 3
  | .new _ => 3
  | .anewarray _ => 3
  | .ldc2_w _ => 3
  | .ldc_w _ => 3
  | _ => 1
def wb_sh (q : wb_O) : Bool := match q with
  | (pc, .if_icmp _ o, nx, tg) => decide (nx = pc + 3) && decide ((pc : Int) + o = (tg : Int))
  | (pc, .ifCond _ o, nx, tg) => decide (nx = pc + 3) && decide ((pc : Int) + o = (tg : Int))
  | (pc, .goto o, nx, tg) => decide (nx = pc + 3) && decide ((pc : Int) + o = (tg : Int))
  | (_, .tableswitch .., _, _) => true
  | (pc, i, nx, _) => decide (nx = pc + wb_len i)
def wb_OD (M : wb_MD) : Prop := (∀ q ∈ wb_op M, decode (wb_by M) q.1 = .ok (q.2.1, q.2.2.1 - q.1)) ∧ (∀ q ∈ wb_op M, wb_sh q = true)
def wb_OK (M : wb_MD) : Prop := (∀ q ∈ wb_op M, decode (wb_by M) q.1 = .ok (q.2.1, q.2.2.1 - q.1)) ∧ (∀ q ∈ wb_op M, wb_sh q = true) ∧ Cond.code (wb_nm M) (wb_by M) (wb_ml M) (wb_rt M) ∈ wb_GW ∧ Cond.initialized (wb_nm M).cls ∈ wb_GW ∧ plainName (wb_nm M).cls = true ∧ (wb_nm M).cls ≠ "java/lang/invoke/MethodHandle" ∧ (wb_nm M).cls ≠ "java/lang/invoke/VarHandle"
/-- launch, base of the heap, addresses of what lies below it, classes, array classes, the script's length and ints -/
abbrev wb_G : Type := Launch × Nat × (Nat → Nat) × va_G × (Nat → ClassId) × Nat × (Nat → Int32)
abbrev wb_gl (G : wb_G) : Launch := G.1
abbrev wb_gb (G : wb_G) : Nat := G.2.1
abbrev wb_gx (G : wb_G) : Nat → Nat := G.2.2.1
abbrev wb_gD (G : wb_G) : va_G := G.2.2.2.1
abbrev wb_gc (G : wb_G) : Nat → ClassId := G.2.2.2.2.1
abbrev wb_gL (G : wb_G) : Nat := G.2.2.2.2.2.1
abbrev wb_gs (G : wb_G) : Nat → Int32 := G.2.2.2.2.2.2
/-- the script is place 0, STOCK_MOST place 1, CELL_MOST place 2 -/
def wb_sm : Nat → Int32 := fun j => if j = 2 then 199 else if j = 3 then 5 else 99
def wb_cm : Nat → Int32 := fun j => if j = 3 then 5 else if j = 4 then 20 else if j = 5 then 20 else 99
def wb_xL (G : wb_G) (k : Nat) : Nat := if k = 0 then wb_gL G else if k = 1 then 4 else 9
def wb_xF (G : wb_G) (k : Nat) : Nat → Int32 := if k = 0 then wb_gs G else if k = 1 then wb_sm else wb_cm
def wb_ad (G : wb_G) (k : Nat) : Nat := if k < 3 then wb_gx G k else wb_gb G + (k - 3)
def wb_tr (G : wb_G) (v : Value) : Value := match v with
  | .ref k => .ref (wb_ad G k)
  | v => v
def wb_tA (G : wb_G) (a : vp_A) : vp_A := match a with
  | (n, .inr (.inr (.inr (.inr g)))) => (n, .inr (.inr (.inr (.inr (fun j => (g j).map (wb_ad G))))))
  | a => a
def wb_tE (G : wb_G) (e : va_E) : va_E := match e with
  | .inl x => .inl (wb_gc G x.1, wb_tA G x.2)
  | .inr o => .inr (o.1, o.2.map (wb_tr G))
def wb_tL (G : wb_G) (l : List (Nat × Value)) : List (Nat × Value) := l.map (fun q => (q.1, wb_tr G q.2))
def wb_ty (G : wb_G) : List (ClassId × FieldType) := [(wb_gc G 0, .int), (wb_gc G 1, .long), (wb_gc G 2, .boolean), (wb_gc G 3, .byte), (wb_gc G 4, .object RX0), (wb_gc G 5, .object RX2)]
abbrev wb_W : Type := Nat → va_E
/-- what lies at a place that isn't made -/
def wb_no : va_E := .inr (99, [])
/-- an array of ints below the base: it has these ints at least, and that length as the machine tells it -/
def wb_Xw (b L : Nat) (xs : Nat → Int32) (U : State) (H : Heap) : Prop := ∃ scr : Cell, H[b]? = some scr ∧ U.isArrayOf scr .int ∧ scr.vm ≠ .unknown ∧ L ≤ scr.slots.size ∧ scr.slots.size.toInt32 = Int32.ofNat L ∧ ∀ j : Nat, j < L → scr.slots[j]? = some (.int (xs j))
theorem wb_Xw.kept {b L : Nat} {xs : Nat → Int32} {U : State} {H H1 : Heap} (h : wb_Xw b L xs U H) (hq : H1[b]? = H[b]?) : wb_Xw b L xs U H1 := by
  obtain ⟨scr, h1, h2⟩ := h
  exact ⟨scr, hq.trans h1, h2⟩
theorem wb_Xw.moved {b L : Nat} {xs : Nat → Int32} {u U : State} {H : Heap} (hvm : u.vm.Alike U.vm) (h : wb_Xw b L xs u H) : wb_Xw b L xs U H := by
  obtain ⟨scr, h1, h2, h3⟩ := h
  exact ⟨scr, h1, State.isArrayOf_alike hvm h2, h3⟩
def wb_KS (G : wb_G) (s : State) : Prop := va_K (wb_gD G) vwCl (wb_ty G) s ∧ (∀ w ∈ wb_NW, va_Nw w s) ∧ va_AO RX0 s ∧ va_AO RX2 s
def wb_at (G : wb_G) (k : Nat) (e : va_E) (H : Heap) : Prop := va_at (wb_gD G) vwCl (wb_ad G k, wb_tE G e) H
def wb_R (G : wb_G) (s : State) (H : Heap) (N : Nat) (w : wb_W) : Prop :=
  3 ≤ N ∧ H.size = wb_gb G + (N - 3) ∧ (∀ k, 3 ≤ k → k < N → wb_at G k (w k) H) ∧ (∀ k, k < 3 → wb_gx G k < wb_gb G ∧ wb_Xw (wb_gx G k) (wb_xL G k) (wb_xF G k) s H) ∧
  va_Z RX11 "STOCK_MOST" "[I" (.ref (wb_gx G 1)) (fun q => wb_gb G ≤ q) s H ∧ va_Z RX11 "CELL_MOST" "[I" (.ref (wb_gx G 2)) (fun q => wb_gb G ≤ q) s H ∧ ∀ k, (k < 3 ∨ N ≤ k) → w k = wb_no
def wb_C (G : wb_G) (M : wb_MD) (p : Program) (s : State) (m : MethodId) (args : Array Value) (meth : Method) (c : Code) : Prop :=
  p.tables.exec = Jvm.exec ∧ c.code = wb_by M ∧ c.maxLocals = wb_ml M ∧ meth.sig.returnType = wb_rt M ∧ meth.locks = false ∧ meth.name = (wb_nm M).name ∧ s.vm.findClass (wb_nm M).cls = some m.cls ∧ (∀ w ∈ wb_GW, w.before args s = true) ∧ wb_KS G s ∧ wb_OD M
/-- a return instruction stands there, for that answer -/
def wb_ret (M : wb_MD) (pc : Nat) (v : Option Value) : Prop :=
  (decode (wb_by M) pc = .ok (.ireturn, 1) ∧ ∃ (x : Int32) (ty : FieldType), v = some (.int x) ∧ wb_rt M = some ty ∧ narrow ty (.int x) = .int x) ∨
  (decode (wb_by M) pc = .ok (.lreturn, 1) ∧ ∃ x : Int64, v = some (.long x) ∧ wb_rt M = some .long) ∨
  (decode (wb_by M) pc = .ok (.areturn, 1) ∧ ∃ (k : Nat) (n : String), v = some (.ref k) ∧ wb_rt M = some (.object n)) ∨
  (decode (wb_by M) pc = .ok (.return_, 1) ∧ v = none ∧ wb_rt M = none)
/-- from the method's place pc, with these locals, this stack, this world, the machine comes to its return, with an answer and a world for which Q holds -/
def wb_V (G : wb_G) (M : wb_MD) (pc : Nat) (l : List (Nat × Value)) (st : List Value) (N : Nat) (w : wb_W) (cc cs : Nat) (Q : Option Value → Nat → wb_W → Prop) : Prop :=
  ∀ (p : Program) (e : Env) (s : State) (m : MethodId) (args : Array Value) (below : List Frame) (meth : Method) (c : Code) (H : Heap) (locs : List Loc) (ls : Array Slot) (Qe : State → Prop),
    wb_C G M p s m args meth c → wb_R G s H N w → lv_has ls (wb_ml M) (wb_tL G l) → (∀ q ∈ locs, wb_gb G ≤ q.base) →
    (∀ (v : Option Value) (N' : Nat) (w' : wb_W) (H' : Heap) (locs' : List Loc) (cc' cs' pc' : Nat) (ls' : Array Slot), Q v N' w' → wb_R G s H' N' w' → (∀ q ∈ locs', wb_gb G ≤ q.base) → cc' ≤ (wb_rm M).cells → cs' ≤ (wb_rm M).slots → wb_ret M pc' v → W p (wb_gl G) e (wb_rm M) s m args below meth c H' locs' cc' cs' Qe (F0 m pc' ls' (v.toList.map (wb_tr G)))) →
    W p (wb_gl G) e (wb_rm M) s m args below meth c H locs cc cs Qe (F0 m pc ls (st.map (wb_tr G)))
/-- a call of a method with these arguments in this world -/
def wb_M (G : wb_G) (M : wb_MD) (As : List Value) (N : Nat) (w : wb_W) (Q : Option Value → Nat → wb_W → Prop) : Prop := wb_V G M 0 (lv_args 0 As) [] N w 0 0 Q
theorem wb_opn {M : wb_MD} (h : wb_OD M) {k pc nx tg : Nat} {i : Instr} (ho : (wb_op M)[k]? = some (pc, i, nx, tg)) : decode (wb_by M) pc = .ok (i, nx - pc) ∧ wb_sh (pc, i, nx, tg) = true := by
  have hm := List.mem_of_getElem? ho
  have h1 := h.1 (pc, i, nx, tg) hm
  have h2 := h.2 (pc, i, nx, tg) hm
  exact ⟨h1, h2⟩
theorem wb_R.set {G : wb_G} {s : State} {H H1 : Heap} {N k : Nat} {w : wb_W} {e : va_E} (h : wb_R G s H N w) (h3 : 3 ≤ k) (hk : k < N) (hz : H1.size = H.size) (ho : ∀ q, q ≠ wb_ad G k → H1[q]? = H[q]?) (ha : wb_at G k e H1) : wb_R G s H1 N (va_up w k e) := by
  obtain ⟨r1, r2, r3, r4, r5, r6, r7⟩ := h
  have hadk : wb_ad G k = wb_gb G + (k - 3) := by unfold wb_ad; rw [if_neg (by omega)]
  refine ⟨r1, by rw [hz]; exact r2, fun j h1 h2 => ?_, fun j hj => ⟨(r4 j hj).1, (r4 j hj).2.kept (ho _ ?_)⟩, r5.kept fun a _ hq => ho a ?_, r6.kept fun a _ hq => ho a ?_, fun j hj => ?_⟩
  · by_cases hjk : j = k
    · subst hjk
      simpa [va_up] using ha
    · have hne : wb_ad G j ≠ wb_ad G k := by
        rw [hadk]; unfold wb_ad; rw [if_neg (by omega)]; omega
      have := r3 j h1 h2
      unfold wb_at at this ⊢
      rw [show va_up w k e j = w j by simp [va_up, hjk]]
      exact va_at.kept this (ho _ hne)
  · rw [hadk]; have := (r4 j hj).1; omega
  · rw [hadk]; intro hh; apply hq; omega
  · rw [hadk]; intro hh; apply hq; omega
  · rw [show va_up w k e j = w j by simp [va_up, show j ≠ k by omega]]
    exact r7 j hj
theorem wb_R.push {G : wb_G} {s : State} {H H1 : Heap} {N : Nat} {w : wb_W} {e : va_E} (h : wb_R G s H N w) (hz : H1.size = H.size + 1) (ho : ∀ q, q < H.size → H1[q]? = H[q]?) (ha : va_at (wb_gD G) vwCl (H.size, wb_tE G e) H1) : wb_R G s H1 (N + 1) (va_up w N e) := by
  obtain ⟨r1, r2, r3, r4, r5, r6, r7⟩ := h
  have hadN : wb_ad G N = H.size := by unfold wb_ad; rw [if_neg (by omega), r2]
  refine ⟨by omega, by rw [hz, r2]; omega, fun j h1 h2 => ?_, fun j hj => ⟨(r4 j hj).1, (r4 j hj).2.kept (ho _ ?_)⟩, r5.kept fun a hlt hq => ho a hlt, r6.kept fun a hlt hq => ho a hlt, fun j hj => ?_⟩
  · by_cases hjk : j = N
    · subst hjk
      unfold wb_at
      rw [hadN]
      simpa [va_up] using ha
    · have := r3 j h1 (by omega)
      unfold wb_at at this ⊢
      rw [show va_up w N e j = w j by simp [va_up, hjk]]
      exact va_at.kept this (ho _ (va_at.lt this))
  · have := (r4 j hj).1; omega
  · rw [show va_up w N e j = w j by simp [va_up, show j ≠ N by omega]]
    exact r7 j (by omega)
theorem wb_R.moved {G : wb_G} {s U : State} {H : Heap} {N : Nat} {w : wb_W} (hvm : s.vm.Alike U.vm) (h : wb_R G s H N w) : wb_R G U H N w :=
  ⟨h.1, h.2.1, h.2.2.1, fun k hk => ⟨(h.2.2.2.1 k hk).1, (h.2.2.2.1 k hk).2.moved hvm⟩, h.2.2.2.2.1.moved hvm, h.2.2.2.2.2.1.moved hvm, h.2.2.2.2.2.2⟩
theorem wb_R.rng {G : wb_G} {s : State} {H : Heap} {N : Nat} {w : wb_W} (h : wb_R G s H N w) {k : Nat} (hk : w k ≠ wb_no) : 3 ≤ k ∧ k < N := by
  by_cases h1 : k < 3 ∨ N ≤ k
  · exact absurd (h.2.2.2.2.2.2 k h1) hk
  · omega
theorem wb_nest {w : Cond} (hw : w ∈ wb_NW) {s U : State} (hW : s.WarmedH U.vm) (h : va_Nw w s) : va_Nw w U := by
  have h2 := (List.mem_filter.mp hw).2
  cases w <;> first | exact absurd h2 (by decide) | exact va_Nw.warmF hW h | exact va_Nw.warmM hW h | (simp [wb_isN] at h2; done)
theorem wb_KS.moved {G : wb_G} {s U : State} (hW : s.WarmedH U.vm) (h : wb_KS G s) : wb_KS G U :=
  ⟨va_K.moved hW.alike h.1, fun w hw => wb_nest hw hW (h.2.1 w hw), va_AO.moved hW.alike h.2.2.1, va_AO.moved hW.alike h.2.2.2⟩
end
section
/-! ===== one row an instruction ===== -/
def wb_i (z : Int) : Int32 := Int32.ofInt z
def wb_get : List (Nat × Value) → Nat → Option Value
  | [], _ => none
  | q :: r, i => cond (Nat.beq q.1 i) (some q.2) (wb_get r i)
def wb_put (l : List (Nat × Value)) (i : Nat) (v : Value) : List (Nat × Value) := (i, v) :: l.filter (fun q => !(Nat.beq q.1 i) && !(Nat.beq (q.1 + 1) i && Nat.beq q.2.category 2))
def wb_put2 (l : List (Nat × Value)) (i : Nat) (v : Value) : List (Nat × Value) := (i, v) :: l.filter (fun q => !(Nat.beq q.1 i) && (!(Nat.beq q.1 (i + 1)) && !(Nat.beq (q.1 + 1) i && Nat.beq q.2.category 2)))
def wb_loc (l : List (Nat × Value)) : List (Nat × Value) → Prop
  | [] => True
  | q :: r => wb_get l q.1 = some q.2 ∧ wb_loc l r
theorem wb_get_mem {l : List (Nat × Value)} {i : Nat} {v : Value} (h : wb_get l i = some v) : (i, v) ∈ l := by
  induction l with
  | nil => cases h
  | cons q r ih =>
    unfold wb_get at h
    cases hb : Nat.beq q.1 i with
    | true =>
      rw [hb] at h
      have := Nat.eq_of_beq_eq_true hb
      subst this
      cases h
      exact List.mem_cons_self
    | false =>
      rw [hb] at h
      exact List.mem_cons_of_mem _ (ih h)
theorem wb_beq (a b : Nat) : (a == b) = Nat.beq a b := by
  cases h : Nat.beq a b with
  | true => exact (beq_iff_eq).mpr (Nat.eq_of_beq_eq_true h)
  | false => exact beq_eq_false_iff_ne.mpr (Nat.ne_of_beq_eq_false h)
theorem wb_and {a b : Bool} (h : (a && b) = true) : a = true ∧ b = true := by cases a <;> cases b <;> simp_all
theorem wb_cat (G : wb_G) (v : Value) : (wb_tr G v).category = v.category := by cases v <;> rfl
theorem wb_at_l {G : wb_G} {ls : Array Slot} {nL : Nat} {l : List (Nat × Value)} (h : lv_has ls nL (wb_tL G l)) {i : Nat} {v : Value} (hg : wb_get l i = some v) : ls[i]? = some (.val (wb_tr G v)) :=
  h.2.2 (i, wb_tr G v) (List.mem_map.mpr ⟨(i, v), wb_get_mem hg, rfl⟩)
theorem wb_pos {G : wb_G} {l : List (Nat × Value)} {i : Nat} {v : Value} (hg : wb_get l i = some v) : ∃ k : Nat, (wb_tL G l)[k]? = some (i, wb_tr G v) :=
  List.getElem?_of_mem (List.mem_map.mpr ⟨(i, v), wb_get_mem hg, rfl⟩)
theorem wb_tL_put {G : wb_G} {l : List (Nat × Value)} {i : Nat} {v : Value} : (i, wb_tr G v) :: (wb_tL G l).filter (fun q => !(q.1 == i) && !(q.1 + 1 == i && q.2.category == 2)) = wb_tL G (wb_put l i v) := by
  unfold wb_tL wb_put
  rw [List.map_cons, List.filter_map]
  congr 2
  apply List.filter_congr
  intro q _
  simp only [Function.comp, wb_cat, wb_beq]
theorem wb_tL_put2 {G : wb_G} {l : List (Nat × Value)} {i : Nat} {v : Value} : (i, wb_tr G v) :: (wb_tL G l).filter (fun q => !(q.1 == i) && (!(q.1 == i + 1) && !(q.1 + 1 == i && q.2.category == 2))) = wb_tL G (wb_put2 l i v) := by
  unfold wb_tL wb_put2
  rw [List.map_cons, List.filter_map]
  congr 2
  apply List.filter_congr
  intro q _
  simp only [Function.comp, wb_cat, wb_beq]
theorem wb_lt {a b : Nat} (h : Nat.blt a b = true) : a < b := Nat.le_of_ble_eq_true h
/-! numbers -/
theorem wb_i_toInt {z : Int} (h : -2147483648 ≤ z ∧ z ≤ 2147483647) : (wb_i z).toInt = z := by
  unfold wb_i; rw [Int32.toInt_ofInt_of_le (by omega) (by omega)]
theorem wb_i_of (x : Int32) : x = wb_i x.toInt := by unfold wb_i; rw [Int32.ofInt_toInt]
theorem wb_i_rg (x : Int32) : -2147483648 ≤ x.toInt ∧ x.toInt ≤ 2147483647 := by
  have h1 := Int32.le_toInt x
  have h2 := Int32.toInt_lt x
  omega
theorem wb_i_add (a b : Int) : wb_i a + wb_i b = wb_i (a + b) := by unfold wb_i; rw [Int32.ofInt_add]
theorem wb_i_mul (a b : Int) : wb_i a * wb_i b = wb_i (a * b) := by unfold wb_i; rw [Int32.ofInt_mul]
theorem wb_i_neg (a : Int) : -wb_i a = wb_i (-a) := by unfold wb_i; rw [Int32.ofInt_neg]
theorem wb_i_sub (a b : Int) : wb_i a - wb_i b = wb_i (a - b) := by unfold wb_i; rw [Int32.ofInt_sub]
theorem wb_i_eq {a b : Int} (ha : -2147483648 ≤ a ∧ a ≤ 2147483647) (hb : -2147483648 ≤ b ∧ b ≤ 2147483647) : wb_i a = wb_i b ↔ a = b := by
  constructor
  · intro h; have := congrArg Int32.toInt h; rwa [wb_i_toInt ha, wb_i_toInt hb] at this
  · intro h; rw [h]
theorem wb_i_lt {a b : Int} (ha : -2147483648 ≤ a ∧ a ≤ 2147483647) (hb : -2147483648 ≤ b ∧ b ≤ 2147483647) : wb_i a < wb_i b ↔ a < b := by
  rw [Int32.lt_iff_toInt_lt, wb_i_toInt ha, wb_i_toInt hb]
theorem wb_i_le {a b : Int} (ha : -2147483648 ≤ a ∧ a ≤ 2147483647) (hb : -2147483648 ≤ b ∧ b ≤ 2147483647) : wb_i a ≤ wb_i b ↔ a ≤ b := by
  rw [Int32.le_iff_toInt_le, wb_i_toInt ha, wb_i_toInt hb]
theorem wb_i_nat (n : Nat) : wb_i (n : Int) = nI n := by unfold wb_i nI; rw [Int32.ofInt_eq_ofNat]
theorem wb_i_div {a b : Int} (ha : 0 ≤ a ∧ a ≤ 2147483647) (hb : 0 < b ∧ b ≤ 2147483647) : wb_i a / wb_i b = wb_i (a / b) := by
  obtain ⟨m, rfl⟩ := Int.eq_ofNat_of_zero_le ha.1
  obtain ⟨n, rfl⟩ := Int.eq_ofNat_of_zero_le (show 0 ≤ b by omega)
  rw [wb_i_nat, wb_i_nat, pk_div (by omega) (by omega) (by omega), ← wb_i_nat]
  rfl
theorem wb_i_rem {a b : Int} (ha : 0 ≤ a ∧ a ≤ 2147483647) (hb : 0 < b ∧ b ≤ 2147483647) : wb_i a - wb_i a / wb_i b * wb_i b = wb_i (a % b) := by
  obtain ⟨m, rfl⟩ := Int.eq_ofNat_of_zero_le ha.1
  obtain ⟨n, rfl⟩ := Int.eq_ofNat_of_zero_le (show 0 ≤ b by omega)
  rw [wb_i_nat, wb_i_nat, pk_rem (by omega) (by omega) (by omega), ← wb_i_nat]
  rfl
theorem wb_i_cl {a : Int} (h0 : 0 ≤ a) (h : a ≤ 2147483647) : ((wb_i a).toNatClampNeg : Int) = a := by
  show (((wb_i a).toInt.toNat : Nat) : Int) = a
  rw [wb_i_toInt (by omega)]; omega
theorem wb_i_in {a : Int} {n : Nat} (h0 : 0 ≤ a) (h : a < n) (hn : a ≤ 2147483647) : vp_in (wb_i a) n := by
  rw [vp_in_iff, wb_i_toInt (by omega)]; omega
theorem wb_i8 {n : Int} (h1 : -128 ≤ n) (h2 : n ≤ 127) : (Int8.ofInt n).toInt32 = wb_i n := by
  apply Int32.toInt_inj.mp
  rw [wb_i_toInt (by omega), Int8.toInt_toInt32, Int8.toInt_ofInt_of_le (by omega) (by omega)]
theorem wb_i16 {n : Int} (h1 : -32768 ≤ n) (h2 : n ≤ 32767) : (Int16.ofInt n).toInt32 = wb_i n := by
  apply Int32.toInt_inj.mp
  rw [wb_i_toInt (by omega), Int16.toInt_toInt32, Int16.toInt_ofInt_of_le (by omega) (by omega)]

section WBROWS
variable {G : wb_G} {M : wb_MD} {pc nx tg : Nat} {l : List (Nat × Value)} {st : List Value} {N : Nat} {w : wb_W} {cc cs : Nat} {Q : Option Value → Nat → wb_W → Prop}
theorem vi_iconst (k : Nat) {n : Int} (h : (wb_op M)[k]? = some (pc, .iconst n, nx, tg))  (kk : wb_V G M nx l (.int (wb_i n) :: st) N w cc cs Q) : wb_V G M pc l (st) N w cc cs Q := by
  intro p e s m args below meth c H locs ls Qe hC hR hl hf hq
  obtain ⟨hd, hs⟩ := wb_opn hC.2.2.2.2.2.2.2.2.2 h
  have hnx : nx = pc + 1 := of_decide_eq_true hs
  subst hnx
  rw [Nat.add_sub_cancel_left] at hd
  exact lv_iconst hC.1 hC.2.1 hd rfl (kk p e s m args below meth c H locs ls Qe hC hR hl hf hq)
theorem vi_bipush (k : Nat) {n : Int} (h : (wb_op M)[k]? = some (pc, .bipush n, nx, tg)) (h1 : -128 ≤ n ∧ n ≤ 127) (kk : wb_V G M nx l (.int (wb_i n) :: st) N w cc cs Q) : wb_V G M pc l (st) N w cc cs Q := by
  intro p e s m args below meth c H locs ls Qe hC hR hl hf hq
  obtain ⟨hd, hs⟩ := wb_opn hC.2.2.2.2.2.2.2.2.2 h
  have hnx : nx = pc + 2 := of_decide_eq_true hs
  subst hnx
  rw [Nat.add_sub_cancel_left] at hd
  exact lv_bipush hC.1 hC.2.1 hd (wb_i8 h1.1 h1.2) (kk p e s m args below meth c H locs ls Qe hC hR hl hf hq)
theorem vi_sipush (k : Nat) {n : Int} (h : (wb_op M)[k]? = some (pc, .sipush n, nx, tg)) (h1 : -32768 ≤ n ∧ n ≤ 32767) (kk : wb_V G M nx l (.int (wb_i n) :: st) N w cc cs Q) : wb_V G M pc l (st) N w cc cs Q := by
  intro p e s m args below meth c H locs ls Qe hC hR hl hf hq
  obtain ⟨hd, hs⟩ := wb_opn hC.2.2.2.2.2.2.2.2.2 h
  have hnx : nx = pc + 3 := of_decide_eq_true hs
  subst hnx
  rw [Nat.add_sub_cancel_left] at hd
  exact lv_sipush hC.1 hC.2.1 hd (wb_i16 h1.1 h1.2) (kk p e s m args below meth c H locs ls Qe hC hR hl hf hq)
theorem vi_lconst (k : Nat) {n : Fin 2} (h : (wb_op M)[k]? = some (pc, .lconst n, nx, tg))  (kk : wb_V G M nx l (.long (Int64.ofNat n) :: st) N w cc cs Q) : wb_V G M pc l (st) N w cc cs Q := by
  intro p e s m args below meth c H locs ls Qe hC hR hl hf hq
  obtain ⟨hd, hs⟩ := wb_opn hC.2.2.2.2.2.2.2.2.2 h
  have hnx : nx = pc + 1 := of_decide_eq_true hs
  subst hnx
  rw [Nat.add_sub_cancel_left] at hd
  exact lv_lconst hC.1 hC.2.1 hd rfl (kk p e s m args below meth c H locs ls Qe hC hR hl hf hq)
theorem vi_ldc (k : Nat) {n : Nat} {z : Int} (h : (wb_op M)[k]? = some (pc, .ldc n, nx, tg)) (h1 : Cond.constant (wb_nm M).cls n (wb_i z) ∈ wb_GW) (kk : wb_V G M nx l (.int (wb_i z) :: st) N w cc cs Q) : wb_V G M pc l (st) N w cc cs Q := by
  intro p e s m args below meth c H locs ls Qe hC hR hl hf hq
  obtain ⟨hd, hs⟩ := wb_opn hC.2.2.2.2.2.2.2.2.2 h
  have hnx : nx = pc + 2 := of_decide_eq_true hs
  subst hnx
  rw [Nat.add_sub_cancel_left] at hd
  exact lv_ldc hC.1 hC.2.1 hC.2.2.2.2.2.2.1 (hC.2.2.2.2.2.2.2.1 _ h1) hd (kk p e s m args below meth c H locs ls Qe hC hR hl hf hq)
theorem vi_ldcw (k : Nat) {n : Nat} {z : Int32} (h : (wb_op M)[k]? = some (pc, .ldc_w n, nx, tg)) (h1 : Cond.constant (wb_nm M).cls n z ∈ wb_GW) (kk : wb_V G M nx l (.int z :: st) N w cc cs Q) : wb_V G M pc l (st) N w cc cs Q := by
  intro p e s m args below meth c H locs ls Qe hC hR hl hf hq
  obtain ⟨hd, hs⟩ := wb_opn hC.2.2.2.2.2.2.2.2.2 h
  have hnx : nx = pc + 3 := of_decide_eq_true hs
  subst hnx
  rw [Nat.add_sub_cancel_left] at hd
  exact lv_ldcw hC.1 hC.2.1 hC.2.2.2.2.2.2.1 (hC.2.2.2.2.2.2.2.1 _ h1) hd (kk p e s m args below meth c H locs ls Qe hC hR hl hf hq)
theorem vi_ldc2 (k : Nat) {n : Nat} {z : Int64} (h : (wb_op M)[k]? = some (pc, .ldc2_w n, nx, tg)) (h1 : Cond.constantLong (wb_nm M).cls n z ∈ wb_GW) (kk : wb_V G M nx l (.long z :: st) N w cc cs Q) : wb_V G M pc l (st) N w cc cs Q := by
  intro p e s m args below meth c H locs ls Qe hC hR hl hf hq
  obtain ⟨hd, hs⟩ := wb_opn hC.2.2.2.2.2.2.2.2.2 h
  have hnx : nx = pc + 3 := of_decide_eq_true hs
  subst hnx
  rw [Nat.add_sub_cancel_left] at hd
  exact lv_ldc2 hC.1 hC.2.1 hC.2.2.2.2.2.2.1 (hC.2.2.2.2.2.2.2.1 _ h1) hd (kk p e s m args below meth c H locs ls Qe hC hR hl hf hq)
theorem vi_iload_n (k : Nat) {i : Fin 4} {x : Int32} (h : (wb_op M)[k]? = some (pc, .iload_n i, nx, tg)) (hg : wb_get l i.val = some (.int x)) (kk : wb_V G M nx l (.int x :: st) N w cc cs Q) : wb_V G M pc l (st) N w cc cs Q := by
  intro p e s m args below meth c H locs ls Qe hC hR hl hf hq
  obtain ⟨hd, hs⟩ := wb_opn hC.2.2.2.2.2.2.2.2.2 h
  have hnx : nx = pc + 1 := of_decide_eq_true hs
  subst hnx
  rw [Nat.add_sub_cancel_left] at hd
  exact lv_iload_n hC.1 hC.2.1 hd rfl (wb_at_l hl hg) (kk p e s m args below meth c H locs ls Qe hC hR hl hf hq)
theorem vi_iload (k : Nat) {i : Nat} {x : Int32} (h : (wb_op M)[k]? = some (pc, .iload i, nx, tg)) (hg : wb_get l i = some (.int x)) (kk : wb_V G M nx l (.int x :: st) N w cc cs Q) : wb_V G M pc l (st) N w cc cs Q := by
  intro p e s m args below meth c H locs ls Qe hC hR hl hf hq
  obtain ⟨hd, hs⟩ := wb_opn hC.2.2.2.2.2.2.2.2.2 h
  have hnx : nx = pc + 2 := of_decide_eq_true hs
  subst hnx
  rw [Nat.add_sub_cancel_left] at hd
  exact lv_iload hC.1 hC.2.1 hd (wb_at_l hl hg) (kk p e s m args below meth c H locs ls Qe hC hR hl hf hq)
theorem vi_istore_n (k : Nat) {i : Fin 4} {x : Int32} (h : (wb_op M)[k]? = some (pc, .istore_n i, nx, tg)) (hn : Nat.blt i.val (wb_ml M) = true) (kk : wb_V G M nx (wb_put l i.val (.int x)) st N w cc cs Q) : wb_V G M pc l (.int x :: st) N w cc cs Q := by
  intro p e s m args below meth c H locs ls Qe hC hR hl hf hq
  obtain ⟨hd, hs⟩ := wb_opn hC.2.2.2.2.2.2.2.2.2 h
  have hnx : nx = pc + 1 := of_decide_eq_true hs
  subst hnx
  rw [Nat.add_sub_cancel_left] at hd
  exact lv_istore_n hC.1 hC.2.1 hd rfl hl (wb_lt hn) (wb_tL_put (v := .int x)) (fun ls hl => (kk p e s m args below meth c H locs ls Qe hC hR hl hf hq))
theorem vi_istore (k : Nat) {i : Nat} {x : Int32} (h : (wb_op M)[k]? = some (pc, .istore i, nx, tg)) (hn : Nat.blt i (wb_ml M) = true) (kk : wb_V G M nx (wb_put l i (.int x)) st N w cc cs Q) : wb_V G M pc l (.int x :: st) N w cc cs Q := by
  intro p e s m args below meth c H locs ls Qe hC hR hl hf hq
  obtain ⟨hd, hs⟩ := wb_opn hC.2.2.2.2.2.2.2.2.2 h
  have hnx : nx = pc + 2 := of_decide_eq_true hs
  subst hnx
  rw [Nat.add_sub_cancel_left] at hd
  exact lv_istore hC.1 hC.2.1 hd hl (wb_lt hn) (wb_tL_put (v := .int x)) (fun ls hl => (kk p e s m args below meth c H locs ls Qe hC hR hl hf hq))
theorem vi_lload_n (k : Nat) {i : Fin 4} {x : Int64} (h : (wb_op M)[k]? = some (pc, .lload_n i, nx, tg)) (hg : wb_get l i.val = some (.long x)) (kk : wb_V G M nx l (.long x :: st) N w cc cs Q) : wb_V G M pc l (st) N w cc cs Q := by
  intro p e s m args below meth c H locs ls Qe hC hR hl hf hq
  obtain ⟨hd, hs⟩ := wb_opn hC.2.2.2.2.2.2.2.2.2 h
  have hnx : nx = pc + 1 := of_decide_eq_true hs
  subst hnx
  rw [Nat.add_sub_cancel_left] at hd
  exact lv_lload_n hC.1 hC.2.1 hd rfl (wb_at_l hl hg) (kk p e s m args below meth c H locs ls Qe hC hR hl hf hq)
theorem vi_lload (k : Nat) {i : Nat} {x : Int64} (h : (wb_op M)[k]? = some (pc, .lload i, nx, tg)) (hg : wb_get l i = some (.long x)) (kk : wb_V G M nx l (.long x :: st) N w cc cs Q) : wb_V G M pc l (st) N w cc cs Q := by
  intro p e s m args below meth c H locs ls Qe hC hR hl hf hq
  obtain ⟨hd, hs⟩ := wb_opn hC.2.2.2.2.2.2.2.2.2 h
  have hnx : nx = pc + 2 := of_decide_eq_true hs
  subst hnx
  rw [Nat.add_sub_cancel_left] at hd
  exact lv_lload hC.1 hC.2.1 hd (wb_at_l hl hg) (kk p e s m args below meth c H locs ls Qe hC hR hl hf hq)
theorem vi_lstore_n (k : Nat) {i : Fin 4} {x : Int64} (h : (wb_op M)[k]? = some (pc, .lstore_n i, nx, tg)) (hn : Nat.blt (i.val+1) (wb_ml M) = true) (kk : wb_V G M nx (wb_put2 l i.val (.long x)) st N w cc cs Q) : wb_V G M pc l (.long x :: st) N w cc cs Q := by
  intro p e s m args below meth c H locs ls Qe hC hR hl hf hq
  obtain ⟨hd, hs⟩ := wb_opn hC.2.2.2.2.2.2.2.2.2 h
  have hnx : nx = pc + 1 := of_decide_eq_true hs
  subst hnx
  rw [Nat.add_sub_cancel_left] at hd
  exact lv_lstore_n hC.1 hC.2.1 hd rfl hl (wb_lt hn) (wb_tL_put2 (v := .long x)) (fun ls hl => (kk p e s m args below meth c H locs ls Qe hC hR hl hf hq))
theorem vi_lstore (k : Nat) {i : Nat} {x : Int64} (h : (wb_op M)[k]? = some (pc, .lstore i, nx, tg)) (hn : Nat.blt (i+1) (wb_ml M) = true) (kk : wb_V G M nx (wb_put2 l i (.long x)) st N w cc cs Q) : wb_V G M pc l (.long x :: st) N w cc cs Q := by
  intro p e s m args below meth c H locs ls Qe hC hR hl hf hq
  obtain ⟨hd, hs⟩ := wb_opn hC.2.2.2.2.2.2.2.2.2 h
  have hnx : nx = pc + 2 := of_decide_eq_true hs
  subst hnx
  rw [Nat.add_sub_cancel_left] at hd
  exact lv_lstore hC.1 hC.2.1 hd hl (wb_lt hn) (wb_tL_put2 (v := .long x)) (fun ls hl => (kk p e s m args below meth c H locs ls Qe hC hR hl hf hq))
theorem vi_aload_n (k : Nat) {i : Fin 4} {x : Nat} (h : (wb_op M)[k]? = some (pc, .aload_n i, nx, tg)) (hg : wb_get l i.val = some (.ref x)) (kk : wb_V G M nx l (.ref x :: st) N w cc cs Q) : wb_V G M pc l (st) N w cc cs Q := by
  intro p e s m args below meth c H locs ls Qe hC hR hl hf hq
  obtain ⟨hd, hs⟩ := wb_opn hC.2.2.2.2.2.2.2.2.2 h
  have hnx : nx = pc + 1 := of_decide_eq_true hs
  subst hnx
  rw [Nat.add_sub_cancel_left] at hd
  exact lv_aload_n hC.1 hC.2.1 hd rfl (wb_at_l hl hg) (kk p e s m args below meth c H locs ls Qe hC hR hl hf hq)
theorem vi_aload (k : Nat) {i : Nat} {x : Nat} (h : (wb_op M)[k]? = some (pc, .aload i, nx, tg)) (hg : wb_get l i = some (.ref x)) (kk : wb_V G M nx l (.ref x :: st) N w cc cs Q) : wb_V G M pc l (st) N w cc cs Q := by
  intro p e s m args below meth c H locs ls Qe hC hR hl hf hq
  obtain ⟨hd, hs⟩ := wb_opn hC.2.2.2.2.2.2.2.2.2 h
  have hnx : nx = pc + 2 := of_decide_eq_true hs
  subst hnx
  rw [Nat.add_sub_cancel_left] at hd
  exact lv_aload hC.1 hC.2.1 hd (wb_at_l hl hg) (kk p e s m args below meth c H locs ls Qe hC hR hl hf hq)
theorem vi_astore_n (k : Nat) {i : Fin 4} {x : Nat} (h : (wb_op M)[k]? = some (pc, .astore_n i, nx, tg)) (hn : Nat.blt i.val (wb_ml M) = true) (kk : wb_V G M nx (wb_put l i.val (.ref x)) st N w cc cs Q) : wb_V G M pc l (.ref x :: st) N w cc cs Q := by
  intro p e s m args below meth c H locs ls Qe hC hR hl hf hq
  obtain ⟨hd, hs⟩ := wb_opn hC.2.2.2.2.2.2.2.2.2 h
  have hnx : nx = pc + 1 := of_decide_eq_true hs
  subst hnx
  rw [Nat.add_sub_cancel_left] at hd
  exact lv_astore_n hC.1 hC.2.1 hd rfl hl (wb_lt hn) (wb_tL_put (v := .ref x)) (fun ls hl => (kk p e s m args below meth c H locs ls Qe hC hR hl hf hq))
theorem vi_astore (k : Nat) {i : Nat} {x : Nat} (h : (wb_op M)[k]? = some (pc, .astore i, nx, tg)) (hn : Nat.blt i (wb_ml M) = true) (kk : wb_V G M nx (wb_put l i (.ref x)) st N w cc cs Q) : wb_V G M pc l (.ref x :: st) N w cc cs Q := by
  intro p e s m args below meth c H locs ls Qe hC hR hl hf hq
  obtain ⟨hd, hs⟩ := wb_opn hC.2.2.2.2.2.2.2.2.2 h
  have hnx : nx = pc + 2 := of_decide_eq_true hs
  subst hnx
  rw [Nat.add_sub_cancel_left] at hd
  exact lv_astore hC.1 hC.2.1 hd hl (wb_lt hn) (wb_tL_put (v := .ref x)) (fun ls hl => (kk p e s m args below meth c H locs ls Qe hC hR hl hf hq))
theorem vi_iinc (k : Nat) {i : Nat} {n x : Int} (h : (wb_op M)[k]? = some (pc, .iinc i n, nx, tg)) (hg : wb_get l i = some (.int (wb_i x))) (hn : Nat.blt i (wb_ml M) = true) (kk : wb_V G M nx (wb_put l i (.int (wb_i (x + n)))) st N w cc cs Q) : wb_V G M pc l st N w cc cs Q := by
  intro p e s m args below meth c H locs ls Qe hC hR hl hf hq
  obtain ⟨hd, hs⟩ := wb_opn hC.2.2.2.2.2.2.2.2.2 h
  have hnx : nx = pc + 3 := of_decide_eq_true hs
  subst hnx
  rw [Nat.add_sub_cancel_left] at hd
  obtain ⟨j, hj⟩ := wb_pos (G := G) hg
  exact lv_iinc hC.1 hC.2.1 hd hl hj (wb_i_add x n) (wb_lt hn) (wb_tL_put (v := .int (wb_i (x + n)))) (fun ls hl => (kk p e s m args below meth c H locs ls Qe hC hR hl hf hq))
theorem vi_iadd (k : Nat) {x y : Int} (h : (wb_op M)[k]? = some (pc, .iadd, nx, tg))  (kk : wb_V G M nx l (.int (wb_i (x + y)) :: st) N w cc cs Q) : wb_V G M pc l (.int (wb_i y) :: .int (wb_i x) :: st) N w cc cs Q := by
  intro p e s m args below meth c H locs ls Qe hC hR hl hf hq
  obtain ⟨hd, hs⟩ := wb_opn hC.2.2.2.2.2.2.2.2.2 h
  have hnx : nx = pc + 1 := of_decide_eq_true hs
  subst hnx
  rw [Nat.add_sub_cancel_left] at hd
  have K := (kk p e s m args below meth c H locs ls Qe hC hR hl hf hq)
  rw [← wb_i_add x y] at K
  exact lv_iadd hC.1 hC.2.1 hd  K
theorem vi_isub (k : Nat) {x y : Int} (h : (wb_op M)[k]? = some (pc, .isub, nx, tg))  (kk : wb_V G M nx l (.int (wb_i (x - y)) :: st) N w cc cs Q) : wb_V G M pc l (.int (wb_i y) :: .int (wb_i x) :: st) N w cc cs Q := by
  intro p e s m args below meth c H locs ls Qe hC hR hl hf hq
  obtain ⟨hd, hs⟩ := wb_opn hC.2.2.2.2.2.2.2.2.2 h
  have hnx : nx = pc + 1 := of_decide_eq_true hs
  subst hnx
  rw [Nat.add_sub_cancel_left] at hd
  have K := (kk p e s m args below meth c H locs ls Qe hC hR hl hf hq)
  rw [← wb_i_sub x y] at K
  exact lv_isub hC.1 hC.2.1 hd  K
theorem vi_imul (k : Nat) {x y : Int} (h : (wb_op M)[k]? = some (pc, .imul, nx, tg))  (kk : wb_V G M nx l (.int (wb_i (x * y)) :: st) N w cc cs Q) : wb_V G M pc l (.int (wb_i y) :: .int (wb_i x) :: st) N w cc cs Q := by
  intro p e s m args below meth c H locs ls Qe hC hR hl hf hq
  obtain ⟨hd, hs⟩ := wb_opn hC.2.2.2.2.2.2.2.2.2 h
  have hnx : nx = pc + 1 := of_decide_eq_true hs
  subst hnx
  rw [Nat.add_sub_cancel_left] at hd
  have K := (kk p e s m args below meth c H locs ls Qe hC hR hl hf hq)
  rw [← wb_i_mul x y] at K
  exact lv_imul hC.1 hC.2.1 hd  K
theorem vi_idiv (k : Nat) {x y : Int} (h : (wb_op M)[k]? = some (pc, .idiv, nx, tg)) (hx : 0 ≤ x ∧ x ≤ 2147483647) (hy : 0 < y ∧ y ≤ 2147483647) (kk : wb_V G M nx l (.int (wb_i (x / y)) :: st) N w cc cs Q) : wb_V G M pc l (.int (wb_i y) :: .int (wb_i x) :: st) N w cc cs Q := by
  intro p e s m args below meth c H locs ls Qe hC hR hl hf hq
  obtain ⟨hd, hs⟩ := wb_opn hC.2.2.2.2.2.2.2.2.2 h
  have hnx : nx = pc + 1 := of_decide_eq_true hs
  subst hnx
  rw [Nat.add_sub_cancel_left] at hd
  have K := (kk p e s m args below meth c H locs ls Qe hC hR hl hf hq)
  rw [← wb_i_div hx hy] at K
  exact lv_idiv hC.1 hC.2.1 hd (fun q => absurd ((wb_i_eq (b := 0) (by omega) (by omega)).mp q) (by omega)) K
theorem vi_irem (k : Nat) {x y : Int} (h : (wb_op M)[k]? = some (pc, .irem, nx, tg)) (hx : 0 ≤ x ∧ x ≤ 2147483647) (hy : 0 < y ∧ y ≤ 2147483647) (kk : wb_V G M nx l (.int (wb_i (x % y)) :: st) N w cc cs Q) : wb_V G M pc l (.int (wb_i y) :: .int (wb_i x) :: st) N w cc cs Q := by
  intro p e s m args below meth c H locs ls Qe hC hR hl hf hq
  obtain ⟨hd, hs⟩ := wb_opn hC.2.2.2.2.2.2.2.2.2 h
  have hnx : nx = pc + 1 := of_decide_eq_true hs
  subst hnx
  rw [Nat.add_sub_cancel_left] at hd
  have K := (kk p e s m args below meth c H locs ls Qe hC hR hl hf hq)
  rw [← wb_i_rem hx hy] at K
  exact lv_irem hC.1 hC.2.1 hd (fun q => absurd ((wb_i_eq (b := 0) (by omega) (by omega)).mp q) (by omega)) K
theorem vi_ineg (k : Nat) {x : Int} (h : (wb_op M)[k]? = some (pc, .ineg, nx, tg))  (kk : wb_V G M nx l (.int (wb_i (-x)) :: st) N w cc cs Q) : wb_V G M pc l (.int (wb_i x) :: st) N w cc cs Q := by
  intro p e s m args below meth c H locs ls Qe hC hR hl hf hq
  obtain ⟨hd, hs⟩ := wb_opn hC.2.2.2.2.2.2.2.2.2 h
  have hnx : nx = pc + 1 := of_decide_eq_true hs
  subst hnx
  rw [Nat.add_sub_cancel_left] at hd
  exact lv_ineg hC.1 hC.2.1 hd (by rw [wb_i_neg]; exact (kk p e s m args below meth c H locs ls Qe hC hR hl hf hq))
theorem vi_iand (k : Nat) {x y : Int32} (h : (wb_op M)[k]? = some (pc, .iand, nx, tg))  (kk : wb_V G M nx l (.int (x &&& y) :: st) N w cc cs Q) : wb_V G M pc l (.int y :: .int x :: st) N w cc cs Q := by
  intro p e s m args below meth c H locs ls Qe hC hR hl hf hq
  obtain ⟨hd, hs⟩ := wb_opn hC.2.2.2.2.2.2.2.2.2 h
  have hnx : nx = pc + 1 := of_decide_eq_true hs
  subst hnx
  rw [Nat.add_sub_cancel_left] at hd
  exact lv_iand hC.1 hC.2.1 hd (kk p e s m args below meth c H locs ls Qe hC hR hl hf hq)
theorem vi_ior (k : Nat) {x y : Int32} (h : (wb_op M)[k]? = some (pc, .ior, nx, tg))  (kk : wb_V G M nx l (.int (x ||| y) :: st) N w cc cs Q) : wb_V G M pc l (.int y :: .int x :: st) N w cc cs Q := by
  intro p e s m args below meth c H locs ls Qe hC hR hl hf hq
  obtain ⟨hd, hs⟩ := wb_opn hC.2.2.2.2.2.2.2.2.2 h
  have hnx : nx = pc + 1 := of_decide_eq_true hs
  subst hnx
  rw [Nat.add_sub_cancel_left] at hd
  exact lv_ior hC.1 hC.2.1 hd (kk p e s m args below meth c H locs ls Qe hC hR hl hf hq)
theorem vi_ixor (k : Nat) {x y : Int32} (h : (wb_op M)[k]? = some (pc, .ixor, nx, tg))  (kk : wb_V G M nx l (.int (x ^^^ y) :: st) N w cc cs Q) : wb_V G M pc l (.int y :: .int x :: st) N w cc cs Q := by
  intro p e s m args below meth c H locs ls Qe hC hR hl hf hq
  obtain ⟨hd, hs⟩ := wb_opn hC.2.2.2.2.2.2.2.2.2 h
  have hnx : nx = pc + 1 := of_decide_eq_true hs
  subst hnx
  rw [Nat.add_sub_cancel_left] at hd
  exact lv_ixor hC.1 hC.2.1 hd (kk p e s m args below meth c H locs ls Qe hC hR hl hf hq)
theorem vi_ishl (k : Nat) {x y : Int32} (h : (wb_op M)[k]? = some (pc, .ishl, nx, tg))  (kk : wb_V G M nx l (.int (x <<< (y &&& 31)) :: st) N w cc cs Q) : wb_V G M pc l (.int y :: .int x :: st) N w cc cs Q := by
  intro p e s m args below meth c H locs ls Qe hC hR hl hf hq
  obtain ⟨hd, hs⟩ := wb_opn hC.2.2.2.2.2.2.2.2.2 h
  have hnx : nx = pc + 1 := of_decide_eq_true hs
  subst hnx
  rw [Nat.add_sub_cancel_left] at hd
  exact lv_ishl hC.1 hC.2.1 hd (kk p e s m args below meth c H locs ls Qe hC hR hl hf hq)
theorem vi_ishr (k : Nat) {x y : Int32} (h : (wb_op M)[k]? = some (pc, .ishr, nx, tg))  (kk : wb_V G M nx l (.int (x >>> (y &&& 31)) :: st) N w cc cs Q) : wb_V G M pc l (.int y :: .int x :: st) N w cc cs Q := by
  intro p e s m args below meth c H locs ls Qe hC hR hl hf hq
  obtain ⟨hd, hs⟩ := wb_opn hC.2.2.2.2.2.2.2.2.2 h
  have hnx : nx = pc + 1 := of_decide_eq_true hs
  subst hnx
  rw [Nat.add_sub_cancel_left] at hd
  exact lv_ishr hC.1 hC.2.1 hd (kk p e s m args below meth c H locs ls Qe hC hR hl hf hq)
theorem vi_iushr (k : Nat) {x y : Int32} (h : (wb_op M)[k]? = some (pc, .iushr, nx, tg))  (kk : wb_V G M nx l (.int ((x.toUInt32 >>> (y.toUInt32 &&& Int32.toUInt32 31)).toInt32) :: st) N w cc cs Q) : wb_V G M pc l (.int y :: .int x :: st) N w cc cs Q := by
  intro p e s m args below meth c H locs ls Qe hC hR hl hf hq
  obtain ⟨hd, hs⟩ := wb_opn hC.2.2.2.2.2.2.2.2.2 h
  have hnx : nx = pc + 1 := of_decide_eq_true hs
  subst hnx
  rw [Nat.add_sub_cancel_left] at hd
  exact lv_iushr hC.1 hC.2.1 hd rfl (kk p e s m args below meth c H locs ls Qe hC hR hl hf hq)
theorem vi_iadd32 (k : Nat) {x y : Int32} (h : (wb_op M)[k]? = some (pc, .iadd, nx, tg))  (kk : wb_V G M nx l (.int (x + y) :: st) N w cc cs Q) : wb_V G M pc l (.int y :: .int x :: st) N w cc cs Q := by
  intro p e s m args below meth c H locs ls Qe hC hR hl hf hq
  obtain ⟨hd, hs⟩ := wb_opn hC.2.2.2.2.2.2.2.2.2 h
  have hnx : nx = pc + 1 := of_decide_eq_true hs
  subst hnx
  rw [Nat.add_sub_cancel_left] at hd
  exact lv_iadd hC.1 hC.2.1 hd (kk p e s m args below meth c H locs ls Qe hC hR hl hf hq)
theorem vi_isub32 (k : Nat) {x y : Int32} (h : (wb_op M)[k]? = some (pc, .isub, nx, tg))  (kk : wb_V G M nx l (.int (x - y) :: st) N w cc cs Q) : wb_V G M pc l (.int y :: .int x :: st) N w cc cs Q := by
  intro p e s m args below meth c H locs ls Qe hC hR hl hf hq
  obtain ⟨hd, hs⟩ := wb_opn hC.2.2.2.2.2.2.2.2.2 h
  have hnx : nx = pc + 1 := of_decide_eq_true hs
  subst hnx
  rw [Nat.add_sub_cancel_left] at hd
  exact lv_isub hC.1 hC.2.1 hd (kk p e s m args below meth c H locs ls Qe hC hR hl hf hq)
theorem vi_land (k : Nat) {x y : Int64} (h : (wb_op M)[k]? = some (pc, .land, nx, tg))  (kk : wb_V G M nx l (.long (x &&& y) :: st) N w cc cs Q) : wb_V G M pc l (.long y :: .long x :: st) N w cc cs Q := by
  intro p e s m args below meth c H locs ls Qe hC hR hl hf hq
  obtain ⟨hd, hs⟩ := wb_opn hC.2.2.2.2.2.2.2.2.2 h
  have hnx : nx = pc + 1 := of_decide_eq_true hs
  subst hnx
  rw [Nat.add_sub_cancel_left] at hd
  exact lv_land hC.1 hC.2.1 hd (kk p e s m args below meth c H locs ls Qe hC hR hl hf hq)
theorem vi_lor (k : Nat) {x y : Int64} (h : (wb_op M)[k]? = some (pc, .lor, nx, tg))  (kk : wb_V G M nx l (.long (x ||| y) :: st) N w cc cs Q) : wb_V G M pc l (.long y :: .long x :: st) N w cc cs Q := by
  intro p e s m args below meth c H locs ls Qe hC hR hl hf hq
  obtain ⟨hd, hs⟩ := wb_opn hC.2.2.2.2.2.2.2.2.2 h
  have hnx : nx = pc + 1 := of_decide_eq_true hs
  subst hnx
  rw [Nat.add_sub_cancel_left] at hd
  exact lv_lor hC.1 hC.2.1 hd (kk p e s m args below meth c H locs ls Qe hC hR hl hf hq)
theorem vi_lxor (k : Nat) {x y : Int64} (h : (wb_op M)[k]? = some (pc, .lxor, nx, tg))  (kk : wb_V G M nx l (.long (x ^^^ y) :: st) N w cc cs Q) : wb_V G M pc l (.long y :: .long x :: st) N w cc cs Q := by
  intro p e s m args below meth c H locs ls Qe hC hR hl hf hq
  obtain ⟨hd, hs⟩ := wb_opn hC.2.2.2.2.2.2.2.2.2 h
  have hnx : nx = pc + 1 := of_decide_eq_true hs
  subst hnx
  rw [Nat.add_sub_cancel_left] at hd
  exact lv_lxor hC.1 hC.2.1 hd (kk p e s m args below meth c H locs ls Qe hC hR hl hf hq)
theorem vi_ladd (k : Nat) {x y : Int64} (h : (wb_op M)[k]? = some (pc, .ladd, nx, tg))  (kk : wb_V G M nx l (.long (x + y) :: st) N w cc cs Q) : wb_V G M pc l (.long y :: .long x :: st) N w cc cs Q := by
  intro p e s m args below meth c H locs ls Qe hC hR hl hf hq
  obtain ⟨hd, hs⟩ := wb_opn hC.2.2.2.2.2.2.2.2.2 h
  have hnx : nx = pc + 1 := of_decide_eq_true hs
  subst hnx
  rw [Nat.add_sub_cancel_left] at hd
  exact lv_ladd hC.1 hC.2.1 hd (kk p e s m args below meth c H locs ls Qe hC hR hl hf hq)
theorem vi_lsub (k : Nat) {x y : Int64} (h : (wb_op M)[k]? = some (pc, .lsub, nx, tg))  (kk : wb_V G M nx l (.long (x - y) :: st) N w cc cs Q) : wb_V G M pc l (.long y :: .long x :: st) N w cc cs Q := by
  intro p e s m args below meth c H locs ls Qe hC hR hl hf hq
  obtain ⟨hd, hs⟩ := wb_opn hC.2.2.2.2.2.2.2.2.2 h
  have hnx : nx = pc + 1 := of_decide_eq_true hs
  subst hnx
  rw [Nat.add_sub_cancel_left] at hd
  exact lv_lsub hC.1 hC.2.1 hd (kk p e s m args below meth c H locs ls Qe hC hR hl hf hq)
theorem vi_lneg (k : Nat) {x : Int64} (h : (wb_op M)[k]? = some (pc, .lneg, nx, tg))  (kk : wb_V G M nx l (.long (-x) :: st) N w cc cs Q) : wb_V G M pc l (.long x :: st) N w cc cs Q := by
  intro p e s m args below meth c H locs ls Qe hC hR hl hf hq
  obtain ⟨hd, hs⟩ := wb_opn hC.2.2.2.2.2.2.2.2.2 h
  have hnx : nx = pc + 1 := of_decide_eq_true hs
  subst hnx
  rw [Nat.add_sub_cancel_left] at hd
  exact lv_lneg hC.1 hC.2.1 hd (kk p e s m args below meth c H locs ls Qe hC hR hl hf hq)
theorem vi_lshl (k : Nat) {x : Int64} {y : Int32} (h : (wb_op M)[k]? = some (pc, .lshl, nx, tg))  (kk : wb_V G M nx l (.long (x <<< (y.toInt64 &&& 63)) :: st) N w cc cs Q) : wb_V G M pc l (.int y :: .long x :: st) N w cc cs Q := by
  intro p e s m args below meth c H locs ls Qe hC hR hl hf hq
  obtain ⟨hd, hs⟩ := wb_opn hC.2.2.2.2.2.2.2.2.2 h
  have hnx : nx = pc + 1 := of_decide_eq_true hs
  subst hnx
  rw [Nat.add_sub_cancel_left] at hd
  exact lv_lshl hC.1 hC.2.1 hd rfl (kk p e s m args below meth c H locs ls Qe hC hR hl hf hq)
theorem vi_lushr (k : Nat) {x : Int64} {y : Int32} (h : (wb_op M)[k]? = some (pc, .lushr, nx, tg))  (kk : wb_V G M nx l (.long ((x.toUInt64 >>> (y.toInt64.toUInt64 &&& Int64.toUInt64 63)).toInt64) :: st) N w cc cs Q) : wb_V G M pc l (.int y :: .long x :: st) N w cc cs Q := by
  intro p e s m args below meth c H locs ls Qe hC hR hl hf hq
  obtain ⟨hd, hs⟩ := wb_opn hC.2.2.2.2.2.2.2.2.2 h
  have hnx : nx = pc + 1 := of_decide_eq_true hs
  subst hnx
  rw [Nat.add_sub_cancel_left] at hd
  exact lv_lushr hC.1 hC.2.1 hd rfl (kk p e s m args below meth c H locs ls Qe hC hR hl hf hq)
theorem vi_i2l (k : Nat) {x : Int32} (h : (wb_op M)[k]? = some (pc, .i2l, nx, tg))  (kk : wb_V G M nx l (.long x.toInt64 :: st) N w cc cs Q) : wb_V G M pc l (.int x :: st) N w cc cs Q := by
  intro p e s m args below meth c H locs ls Qe hC hR hl hf hq
  obtain ⟨hd, hs⟩ := wb_opn hC.2.2.2.2.2.2.2.2.2 h
  have hnx : nx = pc + 1 := of_decide_eq_true hs
  subst hnx
  rw [Nat.add_sub_cancel_left] at hd
  exact lv_i2l hC.1 hC.2.1 hd rfl (kk p e s m args below meth c H locs ls Qe hC hR hl hf hq)
theorem vi_l2i (k : Nat) {x : Int64} (h : (wb_op M)[k]? = some (pc, .l2i, nx, tg))  (kk : wb_V G M nx l (.int x.toInt32 :: st) N w cc cs Q) : wb_V G M pc l (.long x :: st) N w cc cs Q := by
  intro p e s m args below meth c H locs ls Qe hC hR hl hf hq
  obtain ⟨hd, hs⟩ := wb_opn hC.2.2.2.2.2.2.2.2.2 h
  have hnx : nx = pc + 1 := of_decide_eq_true hs
  subst hnx
  rw [Nat.add_sub_cancel_left] at hd
  exact lv_l2i hC.1 hC.2.1 hd rfl (kk p e s m args below meth c H locs ls Qe hC hR hl hf hq)
theorem vi_i2b (k : Nat) {x : Int32} (h : (wb_op M)[k]? = some (pc, .i2b, nx, tg))  (kk : wb_V G M nx l (.int x.toInt8.toInt32 :: st) N w cc cs Q) : wb_V G M pc l (.int x :: st) N w cc cs Q := by
  intro p e s m args below meth c H locs ls Qe hC hR hl hf hq
  obtain ⟨hd, hs⟩ := wb_opn hC.2.2.2.2.2.2.2.2.2 h
  have hnx : nx = pc + 1 := of_decide_eq_true hs
  subst hnx
  rw [Nat.add_sub_cancel_left] at hd
  exact lv_i2b hC.1 hC.2.1 hd rfl (kk p e s m args below meth c H locs ls Qe hC hR hl hf hq)
theorem vi_lcmp (k : Nat) {x y : Int64} (h : (wb_op M)[k]? = some (pc, .lcmp, nx, tg))  (kk : wb_V G M nx l (.int (lg_cmp x y) :: st) N w cc cs Q) : wb_V G M pc l (.long y :: .long x :: st) N w cc cs Q := by
  intro p e s m args below meth c H locs ls Qe hC hR hl hf hq
  obtain ⟨hd, hs⟩ := wb_opn hC.2.2.2.2.2.2.2.2.2 h
  have hnx : nx = pc + 1 := of_decide_eq_true hs
  subst hnx
  rw [Nat.add_sub_cancel_left] at hd
  exact W.lcmp hC.1 hC.2.1 hd (kk p e s m args below meth c H locs ls Qe hC hR hl hf hq)
theorem vi_dup (k : Nat) {a : Value} (h : (wb_op M)[k]? = some (pc, .dup, nx, tg)) (ha : a.category = 1) (kk : wb_V G M nx l (a :: a :: st) N w cc cs Q) : wb_V G M pc l (a :: st) N w cc cs Q := by
  intro p e s m args below meth c H locs ls Qe hC hR hl hf hq
  obtain ⟨hd, hs⟩ := wb_opn hC.2.2.2.2.2.2.2.2.2 h
  have hnx : nx = pc + 1 := of_decide_eq_true hs
  subst hnx
  rw [Nat.add_sub_cancel_left] at hd
  exact lv_dup hC.1 hC.2.1 hd ((wb_cat G a).trans ha) (kk p e s m args below meth c H locs ls Qe hC hR hl hf hq)
theorem vi_pop (k : Nat) {a : Value} (h : (wb_op M)[k]? = some (pc, .pop, nx, tg)) (ha : a.category = 1) (kk : wb_V G M nx l (st) N w cc cs Q) : wb_V G M pc l (a :: st) N w cc cs Q := by
  intro p e s m args below meth c H locs ls Qe hC hR hl hf hq
  obtain ⟨hd, hs⟩ := wb_opn hC.2.2.2.2.2.2.2.2.2 h
  have hnx : nx = pc + 1 := of_decide_eq_true hs
  subst hnx
  rw [Nat.add_sub_cancel_left] at hd
  exact lv_pop hC.1 hC.2.1 hd ((wb_cat G a).trans ha) (kk p e s m args below meth c H locs ls Qe hC hR hl hf hq)
theorem vi_dup_x1 (k : Nat) {a b : Value} (h : (wb_op M)[k]? = some (pc, .dup_x1, nx, tg)) (ha : a.category = 1) (hb : b.category = 1) (kk : wb_V G M nx l (a :: b :: a :: st) N w cc cs Q) : wb_V G M pc l (a :: b :: st) N w cc cs Q := by
  intro p e s m args below meth c H locs ls Qe hC hR hl hf hq
  obtain ⟨hd, hs⟩ := wb_opn hC.2.2.2.2.2.2.2.2.2 h
  have hnx : nx = pc + 1 := of_decide_eq_true hs
  subst hnx
  rw [Nat.add_sub_cancel_left] at hd
  exact lv_dup_x1 hC.1 hC.2.1 hd ((wb_cat G a).trans ha) ((wb_cat G b).trans hb) (kk p e s m args below meth c H locs ls Qe hC hR hl hf hq)
theorem vi_dup2 (k : Nat) {a b : Value} (h : (wb_op M)[k]? = some (pc, .dup2, nx, tg)) (ha : a.category = 1) (hb : b.category = 1) (kk : wb_V G M nx l (a :: b :: a :: b :: st) N w cc cs Q) : wb_V G M pc l (a :: b :: st) N w cc cs Q := by
  intro p e s m args below meth c H locs ls Qe hC hR hl hf hq
  obtain ⟨hd, hs⟩ := wb_opn hC.2.2.2.2.2.2.2.2.2 h
  have hnx : nx = pc + 1 := of_decide_eq_true hs
  subst hnx
  rw [Nat.add_sub_cancel_left] at hd
  exact lv_dup2_11 hC.1 hC.2.1 hd ((wb_cat G a).trans ha) ((wb_cat G b).trans hb) (kk p e s m args below meth c H locs ls Qe hC hR hl hf hq)
theorem vi_dup2L (k : Nat) {a : Value} (h : (wb_op M)[k]? = some (pc, .dup2, nx, tg)) (ha : a.category = 2) (kk : wb_V G M nx l (a :: a :: st) N w cc cs Q) : wb_V G M pc l (a :: st) N w cc cs Q := by
  intro p e s m args below meth c H locs ls Qe hC hR hl hf hq
  obtain ⟨hd, hs⟩ := wb_opn hC.2.2.2.2.2.2.2.2.2 h
  have hnx : nx = pc + 1 := of_decide_eq_true hs
  subst hnx
  rw [Nat.add_sub_cancel_left] at hd
  exact lv_dup2_2 hC.1 hC.2.1 hd ((wb_cat G a).trans ha) (kk p e s m args below meth c H locs ls Qe hC hR hl hf hq)
theorem vi_icmp_eq (k : Nat) {x y : Int} {o : Int} (h : (wb_op M)[k]? = some (pc, .if_icmp .eq o, nx, tg)) (hx : -2147483648 ≤ x ∧ x ≤ 2147483647) (hy : -2147483648 ≤ y ∧ y ≤ 2147483647) (kt : x = y → wb_V G M tg l st N w cc cs Q) (kf : ¬ (x = y) → wb_V G M nx l st N w cc cs Q) : wb_V G M pc l (.int (wb_i y) :: .int (wb_i x) :: st) N w cc cs Q := by
  intro p e s m args below meth c H locs ls Qe hC hR hl hf hq
  obtain ⟨hd, hs⟩ := wb_opn hC.2.2.2.2.2.2.2.2.2 h
  have hs2 : nx = pc + 3 ∧ (pc : Int) + o = (tg : Int) := ⟨of_decide_eq_true (wb_and hs).1, of_decide_eq_true (wb_and hs).2⟩
  obtain ⟨hnx, htg⟩ := hs2
  subst hnx
  rw [Nat.add_sub_cancel_left] at hd
  have E : wb_i x = wb_i y ↔ x = y := wb_i_eq (b := y) hx hy
  exact lv_icmp_eq hC.1 hC.2.1 hd htg (fun q => kt (E.mp q) p e s m args below meth c H locs ls Qe hC hR hl hf hq) (fun q => kf (fun z => q (E.mpr z)) p e s m args below meth c H locs ls Qe hC hR hl hf hq)
theorem vi_if_eq (k : Nat) {x : Int} {o : Int} (h : (wb_op M)[k]? = some (pc, .ifCond .eq o, nx, tg)) (hx : -2147483648 ≤ x ∧ x ≤ 2147483647) (kt : x = 0 → wb_V G M tg l st N w cc cs Q) (kf : ¬ (x = 0) → wb_V G M nx l st N w cc cs Q) : wb_V G M pc l (.int (wb_i x) :: st) N w cc cs Q := by
  intro p e s m args below meth c H locs ls Qe hC hR hl hf hq
  obtain ⟨hd, hs⟩ := wb_opn hC.2.2.2.2.2.2.2.2.2 h
  have hs2 : nx = pc + 3 ∧ (pc : Int) + o = (tg : Int) := ⟨of_decide_eq_true (wb_and hs).1, of_decide_eq_true (wb_and hs).2⟩
  obtain ⟨hnx, htg⟩ := hs2
  subst hnx
  rw [Nat.add_sub_cancel_left] at hd
  have E : wb_i x = wb_i 0 ↔ x = 0 := wb_i_eq (b := 0) hx (by omega)
  exact lv_if_eq hC.1 hC.2.1 hd htg (fun q => kt (E.mp q) p e s m args below meth c H locs ls Qe hC hR hl hf hq) (fun q => kf (fun z => q (E.mpr z)) p e s m args below meth c H locs ls Qe hC hR hl hf hq)
theorem vi_icmp_ne (k : Nat) {x y : Int} {o : Int} (h : (wb_op M)[k]? = some (pc, .if_icmp .ne o, nx, tg)) (hx : -2147483648 ≤ x ∧ x ≤ 2147483647) (hy : -2147483648 ≤ y ∧ y ≤ 2147483647) (kt : ¬ x = y → wb_V G M tg l st N w cc cs Q) (kf : x = y → wb_V G M nx l st N w cc cs Q) : wb_V G M pc l (.int (wb_i y) :: .int (wb_i x) :: st) N w cc cs Q := by
  intro p e s m args below meth c H locs ls Qe hC hR hl hf hq
  obtain ⟨hd, hs⟩ := wb_opn hC.2.2.2.2.2.2.2.2.2 h
  have hs2 : nx = pc + 3 ∧ (pc : Int) + o = (tg : Int) := ⟨of_decide_eq_true (wb_and hs).1, of_decide_eq_true (wb_and hs).2⟩
  obtain ⟨hnx, htg⟩ := hs2
  subst hnx
  rw [Nat.add_sub_cancel_left] at hd
  have E : wb_i x = wb_i y ↔ x = y := wb_i_eq (b := y) hx hy
  exact lv_icmp_ne hC.1 hC.2.1 hd htg (fun q => kt (fun z => q (E.mpr z)) p e s m args below meth c H locs ls Qe hC hR hl hf hq) (fun q => kf (E.mp q) p e s m args below meth c H locs ls Qe hC hR hl hf hq)
theorem vi_if_ne (k : Nat) {x : Int} {o : Int} (h : (wb_op M)[k]? = some (pc, .ifCond .ne o, nx, tg)) (hx : -2147483648 ≤ x ∧ x ≤ 2147483647) (kt : ¬ x = 0 → wb_V G M tg l st N w cc cs Q) (kf : x = 0 → wb_V G M nx l st N w cc cs Q) : wb_V G M pc l (.int (wb_i x) :: st) N w cc cs Q := by
  intro p e s m args below meth c H locs ls Qe hC hR hl hf hq
  obtain ⟨hd, hs⟩ := wb_opn hC.2.2.2.2.2.2.2.2.2 h
  have hs2 : nx = pc + 3 ∧ (pc : Int) + o = (tg : Int) := ⟨of_decide_eq_true (wb_and hs).1, of_decide_eq_true (wb_and hs).2⟩
  obtain ⟨hnx, htg⟩ := hs2
  subst hnx
  rw [Nat.add_sub_cancel_left] at hd
  have E : wb_i x = wb_i 0 ↔ x = 0 := wb_i_eq (b := 0) hx (by omega)
  exact lv_if_ne hC.1 hC.2.1 hd htg (fun q => kt (fun z => q (E.mpr z)) p e s m args below meth c H locs ls Qe hC hR hl hf hq) (fun q => kf (E.mp q) p e s m args below meth c H locs ls Qe hC hR hl hf hq)
theorem vi_icmp_lt (k : Nat) {x y : Int} {o : Int} (h : (wb_op M)[k]? = some (pc, .if_icmp .lt o, nx, tg)) (hx : -2147483648 ≤ x ∧ x ≤ 2147483647) (hy : -2147483648 ≤ y ∧ y ≤ 2147483647) (kt : x < y → wb_V G M tg l st N w cc cs Q) (kf : ¬ (x < y) → wb_V G M nx l st N w cc cs Q) : wb_V G M pc l (.int (wb_i y) :: .int (wb_i x) :: st) N w cc cs Q := by
  intro p e s m args below meth c H locs ls Qe hC hR hl hf hq
  obtain ⟨hd, hs⟩ := wb_opn hC.2.2.2.2.2.2.2.2.2 h
  have hs2 : nx = pc + 3 ∧ (pc : Int) + o = (tg : Int) := ⟨of_decide_eq_true (wb_and hs).1, of_decide_eq_true (wb_and hs).2⟩
  obtain ⟨hnx, htg⟩ := hs2
  subst hnx
  rw [Nat.add_sub_cancel_left] at hd
  have E : wb_i x < wb_i y ↔ x < y := wb_i_lt (b := y) hx hy
  exact lv_icmp_lt hC.1 hC.2.1 hd htg (fun q => kt (E.mp q) p e s m args below meth c H locs ls Qe hC hR hl hf hq) (fun q => kf (fun z => q (E.mpr z)) p e s m args below meth c H locs ls Qe hC hR hl hf hq)
theorem vi_if_lt (k : Nat) {x : Int} {o : Int} (h : (wb_op M)[k]? = some (pc, .ifCond .lt o, nx, tg)) (hx : -2147483648 ≤ x ∧ x ≤ 2147483647) (kt : x < 0 → wb_V G M tg l st N w cc cs Q) (kf : ¬ (x < 0) → wb_V G M nx l st N w cc cs Q) : wb_V G M pc l (.int (wb_i x) :: st) N w cc cs Q := by
  intro p e s m args below meth c H locs ls Qe hC hR hl hf hq
  obtain ⟨hd, hs⟩ := wb_opn hC.2.2.2.2.2.2.2.2.2 h
  have hs2 : nx = pc + 3 ∧ (pc : Int) + o = (tg : Int) := ⟨of_decide_eq_true (wb_and hs).1, of_decide_eq_true (wb_and hs).2⟩
  obtain ⟨hnx, htg⟩ := hs2
  subst hnx
  rw [Nat.add_sub_cancel_left] at hd
  have E : wb_i x < wb_i 0 ↔ x < 0 := wb_i_lt (b := 0) hx (by omega)
  exact lv_if_lt hC.1 hC.2.1 hd htg (fun q => kt (E.mp q) p e s m args below meth c H locs ls Qe hC hR hl hf hq) (fun q => kf (fun z => q (E.mpr z)) p e s m args below meth c H locs ls Qe hC hR hl hf hq)
theorem vi_icmp_le (k : Nat) {x y : Int} {o : Int} (h : (wb_op M)[k]? = some (pc, .if_icmp .le o, nx, tg)) (hx : -2147483648 ≤ x ∧ x ≤ 2147483647) (hy : -2147483648 ≤ y ∧ y ≤ 2147483647) (kt : x ≤ y → wb_V G M tg l st N w cc cs Q) (kf : ¬ (x ≤ y) → wb_V G M nx l st N w cc cs Q) : wb_V G M pc l (.int (wb_i y) :: .int (wb_i x) :: st) N w cc cs Q := by
  intro p e s m args below meth c H locs ls Qe hC hR hl hf hq
  obtain ⟨hd, hs⟩ := wb_opn hC.2.2.2.2.2.2.2.2.2 h
  have hs2 : nx = pc + 3 ∧ (pc : Int) + o = (tg : Int) := ⟨of_decide_eq_true (wb_and hs).1, of_decide_eq_true (wb_and hs).2⟩
  obtain ⟨hnx, htg⟩ := hs2
  subst hnx
  rw [Nat.add_sub_cancel_left] at hd
  have E : wb_i x ≤ wb_i y ↔ x ≤ y := wb_i_le (b := y) hx hy
  exact lv_icmp_le hC.1 hC.2.1 hd htg (fun q => kt (E.mp q) p e s m args below meth c H locs ls Qe hC hR hl hf hq) (fun q => kf (fun z => q (E.mpr z)) p e s m args below meth c H locs ls Qe hC hR hl hf hq)
theorem vi_if_le (k : Nat) {x : Int} {o : Int} (h : (wb_op M)[k]? = some (pc, .ifCond .le o, nx, tg)) (hx : -2147483648 ≤ x ∧ x ≤ 2147483647) (kt : x ≤ 0 → wb_V G M tg l st N w cc cs Q) (kf : ¬ (x ≤ 0) → wb_V G M nx l st N w cc cs Q) : wb_V G M pc l (.int (wb_i x) :: st) N w cc cs Q := by
  intro p e s m args below meth c H locs ls Qe hC hR hl hf hq
  obtain ⟨hd, hs⟩ := wb_opn hC.2.2.2.2.2.2.2.2.2 h
  have hs2 : nx = pc + 3 ∧ (pc : Int) + o = (tg : Int) := ⟨of_decide_eq_true (wb_and hs).1, of_decide_eq_true (wb_and hs).2⟩
  obtain ⟨hnx, htg⟩ := hs2
  subst hnx
  rw [Nat.add_sub_cancel_left] at hd
  have E : wb_i x ≤ wb_i 0 ↔ x ≤ 0 := wb_i_le (b := 0) hx (by omega)
  exact lv_if_le hC.1 hC.2.1 hd htg (fun q => kt (E.mp q) p e s m args below meth c H locs ls Qe hC hR hl hf hq) (fun q => kf (fun z => q (E.mpr z)) p e s m args below meth c H locs ls Qe hC hR hl hf hq)
theorem vi_icmp_gt (k : Nat) {x y : Int} {o : Int} (h : (wb_op M)[k]? = some (pc, .if_icmp .gt o, nx, tg)) (hx : -2147483648 ≤ x ∧ x ≤ 2147483647) (hy : -2147483648 ≤ y ∧ y ≤ 2147483647) (kt : y < x → wb_V G M tg l st N w cc cs Q) (kf : ¬ (y < x) → wb_V G M nx l st N w cc cs Q) : wb_V G M pc l (.int (wb_i y) :: .int (wb_i x) :: st) N w cc cs Q := by
  intro p e s m args below meth c H locs ls Qe hC hR hl hf hq
  obtain ⟨hd, hs⟩ := wb_opn hC.2.2.2.2.2.2.2.2.2 h
  have hs2 : nx = pc + 3 ∧ (pc : Int) + o = (tg : Int) := ⟨of_decide_eq_true (wb_and hs).1, of_decide_eq_true (wb_and hs).2⟩
  obtain ⟨hnx, htg⟩ := hs2
  subst hnx
  rw [Nat.add_sub_cancel_left] at hd
  have E : wb_i y < wb_i x ↔ y < x := wb_i_lt (a := y) hy hx
  exact lv_icmp_gt hC.1 hC.2.1 hd htg (fun q => kt (E.mp q) p e s m args below meth c H locs ls Qe hC hR hl hf hq) (fun q => kf (fun z => q (E.mpr z)) p e s m args below meth c H locs ls Qe hC hR hl hf hq)
theorem vi_if_gt (k : Nat) {x : Int} {o : Int} (h : (wb_op M)[k]? = some (pc, .ifCond .gt o, nx, tg)) (hx : -2147483648 ≤ x ∧ x ≤ 2147483647) (kt : 0 < x → wb_V G M tg l st N w cc cs Q) (kf : ¬ (0 < x) → wb_V G M nx l st N w cc cs Q) : wb_V G M pc l (.int (wb_i x) :: st) N w cc cs Q := by
  intro p e s m args below meth c H locs ls Qe hC hR hl hf hq
  obtain ⟨hd, hs⟩ := wb_opn hC.2.2.2.2.2.2.2.2.2 h
  have hs2 : nx = pc + 3 ∧ (pc : Int) + o = (tg : Int) := ⟨of_decide_eq_true (wb_and hs).1, of_decide_eq_true (wb_and hs).2⟩
  obtain ⟨hnx, htg⟩ := hs2
  subst hnx
  rw [Nat.add_sub_cancel_left] at hd
  have E : wb_i 0 < wb_i x ↔ 0 < x := wb_i_lt (a := 0) (by omega) hx
  exact lv_if_gt hC.1 hC.2.1 hd htg (fun q => kt (E.mp q) p e s m args below meth c H locs ls Qe hC hR hl hf hq) (fun q => kf (fun z => q (E.mpr z)) p e s m args below meth c H locs ls Qe hC hR hl hf hq)
theorem vi_icmp_ge (k : Nat) {x y : Int} {o : Int} (h : (wb_op M)[k]? = some (pc, .if_icmp .ge o, nx, tg)) (hx : -2147483648 ≤ x ∧ x ≤ 2147483647) (hy : -2147483648 ≤ y ∧ y ≤ 2147483647) (kt : y ≤ x → wb_V G M tg l st N w cc cs Q) (kf : ¬ (y ≤ x) → wb_V G M nx l st N w cc cs Q) : wb_V G M pc l (.int (wb_i y) :: .int (wb_i x) :: st) N w cc cs Q := by
  intro p e s m args below meth c H locs ls Qe hC hR hl hf hq
  obtain ⟨hd, hs⟩ := wb_opn hC.2.2.2.2.2.2.2.2.2 h
  have hs2 : nx = pc + 3 ∧ (pc : Int) + o = (tg : Int) := ⟨of_decide_eq_true (wb_and hs).1, of_decide_eq_true (wb_and hs).2⟩
  obtain ⟨hnx, htg⟩ := hs2
  subst hnx
  rw [Nat.add_sub_cancel_left] at hd
  have E : wb_i y ≤ wb_i x ↔ y ≤ x := wb_i_le (a := y) hy hx
  exact lv_icmp_ge hC.1 hC.2.1 hd htg (fun q => kt (E.mp q) p e s m args below meth c H locs ls Qe hC hR hl hf hq) (fun q => kf (fun z => q (E.mpr z)) p e s m args below meth c H locs ls Qe hC hR hl hf hq)
theorem vi_if_ge (k : Nat) {x : Int} {o : Int} (h : (wb_op M)[k]? = some (pc, .ifCond .ge o, nx, tg)) (hx : -2147483648 ≤ x ∧ x ≤ 2147483647) (kt : 0 ≤ x → wb_V G M tg l st N w cc cs Q) (kf : ¬ (0 ≤ x) → wb_V G M nx l st N w cc cs Q) : wb_V G M pc l (.int (wb_i x) :: st) N w cc cs Q := by
  intro p e s m args below meth c H locs ls Qe hC hR hl hf hq
  obtain ⟨hd, hs⟩ := wb_opn hC.2.2.2.2.2.2.2.2.2 h
  have hs2 : nx = pc + 3 ∧ (pc : Int) + o = (tg : Int) := ⟨of_decide_eq_true (wb_and hs).1, of_decide_eq_true (wb_and hs).2⟩
  obtain ⟨hnx, htg⟩ := hs2
  subst hnx
  rw [Nat.add_sub_cancel_left] at hd
  have E : wb_i 0 ≤ wb_i x ↔ 0 ≤ x := wb_i_le (a := 0) (by omega) hx
  exact lv_if_ge hC.1 hC.2.1 hd htg (fun q => kt (E.mp q) p e s m args below meth c H locs ls Qe hC hR hl hf hq) (fun q => kf (fun z => q (E.mpr z)) p e s m args below meth c H locs ls Qe hC hR hl hf hq)
theorem vi_if_eq32 (k : Nat) {x : Int32} {o : Int} (h : (wb_op M)[k]? = some (pc, .ifCond .eq o, nx, tg)) (kt : x = 0 → wb_V G M tg l st N w cc cs Q) (kf : ¬ x = 0 → wb_V G M nx l st N w cc cs Q) : wb_V G M pc l (.int x :: st) N w cc cs Q := by
  intro p e s m args below meth c H locs ls Qe hC hR hl hf hq
  obtain ⟨hd, hs⟩ := wb_opn hC.2.2.2.2.2.2.2.2.2 h
  have hs2 : nx = pc + 3 ∧ (pc : Int) + o = (tg : Int) := ⟨of_decide_eq_true (wb_and hs).1, of_decide_eq_true (wb_and hs).2⟩
  obtain ⟨hnx, htg⟩ := hs2
  subst hnx
  rw [Nat.add_sub_cancel_left] at hd
  exact lv_if_eq hC.1 hC.2.1 hd htg (fun q => kt q p e s m args below meth c H locs ls Qe hC hR hl hf hq) (fun q => kf q p e s m args below meth c H locs ls Qe hC hR hl hf hq)
theorem vi_if_ne32 (k : Nat) {x : Int32} {o : Int} (h : (wb_op M)[k]? = some (pc, .ifCond .ne o, nx, tg)) (kt : ¬ x = 0 → wb_V G M tg l st N w cc cs Q) (kf : x = 0 → wb_V G M nx l st N w cc cs Q) : wb_V G M pc l (.int x :: st) N w cc cs Q := by
  intro p e s m args below meth c H locs ls Qe hC hR hl hf hq
  obtain ⟨hd, hs⟩ := wb_opn hC.2.2.2.2.2.2.2.2.2 h
  have hs2 : nx = pc + 3 ∧ (pc : Int) + o = (tg : Int) := ⟨of_decide_eq_true (wb_and hs).1, of_decide_eq_true (wb_and hs).2⟩
  obtain ⟨hnx, htg⟩ := hs2
  subst hnx
  rw [Nat.add_sub_cancel_left] at hd
  exact lv_if_ne hC.1 hC.2.1 hd htg (fun q => kt q p e s m args below meth c H locs ls Qe hC hR hl hf hq) (fun q => kf q p e s m args below meth c H locs ls Qe hC hR hl hf hq)
theorem vi_goto (k : Nat) {o : Int} (h : (wb_op M)[k]? = some (pc, .goto o, nx, tg)) (kk : wb_V G M tg l st N w cc cs Q) : wb_V G M pc l st N w cc cs Q := by
  intro p e s m args below meth c H locs ls Qe hC hR hl hf hq
  obtain ⟨hd, hs⟩ := wb_opn hC.2.2.2.2.2.2.2.2.2 h
  have hs2 : nx = pc + 3 ∧ (pc : Int) + o = (tg : Int) := ⟨of_decide_eq_true (wb_and hs).1, of_decide_eq_true (wb_and hs).2⟩
  obtain ⟨hnx, htg⟩ := hs2
  subst hnx
  rw [Nat.add_sub_cancel_left] at hd
  exact lv_goto hC.1 hC.2.1 hd htg (kk p e s m args below meth c H locs ls Qe hC hR hl hf hq)
theorem vi_tab (k : Nat) {dflt lo hi : Int} {offs : Array Int} {x : Int} (t : Nat) (h : (wb_op M)[k]? = some (pc, .tableswitch dflt lo hi offs, nx, tg)) (hx : -2147483648 ≤ x ∧ x ≤ 2147483647) (ht : ((x < lo ∨ hi < x) ∧ (pc : Int) + dflt = (t : Int)) ∨ (lo ≤ x ∧ x ≤ hi ∧ ∃ off, offs[(x - lo).toNat]? = some off ∧ (pc : Int) + off = (t : Int))) (kk : wb_V G M t l st N w cc cs Q) : wb_V G M pc l (.int (wb_i x) :: st) N w cc cs Q := by
  intro p e s m args below meth c H locs ls Qe hC hR hl hf hq
  obtain ⟨hd, hs⟩ := wb_opn hC.2.2.2.2.2.2.2.2.2 h
  rcases ht with ⟨h1, h2⟩ | ⟨h1, h2, off, h3, h4⟩
  · exact lv_tableOut hC.1 hC.2.1 hd (by rw [wb_i_toInt hx]; exact h1) h2 (kk p e s m args below meth c H locs ls Qe hC hR hl hf hq)
  · exact lv_tableIn hC.1 hC.2.1 hd (by rw [wb_i_toInt hx]; omega) (by rw [wb_i_toInt hx]; omega) (by rw [wb_i_toInt hx]; exact h3) h4 (kk p e s m args below meth c H locs ls Qe hC hR hl hf hq)
theorem vi_loc (l' : List (Nat × Value)) (hl' : wb_loc l l') (kk : wb_V G M pc l' st N w cc cs Q) : wb_V G M pc l st N w cc cs Q := by
  intro p e s m args below meth c H locs ls Qe hC hR hl hf hq
  refine kk p e s m args below meth c H locs ls Qe hC hR ⟨hl.1, hl.2.1, fun q hq2 => ?_⟩ hf hq
  obtain ⟨r, hr, rfl⟩ := List.mem_map.mp hq2
  have : ∀ l', wb_loc l l' → ∀ r ∈ l', wb_get l r.1 = some r.2 := by
    intro l'
    induction l' with
    | nil => intro _ r hr; cases hr
    | cons a b ih =>
      intro h r hr
      rcases List.mem_cons.mp hr with rfl | hr
      · exact h.1
      · exact ih h.2 r hr
  exact wb_at_l hl (this l' hl' r hr)
theorem vi_Q {Q' : Option Value → Nat → wb_W → Prop} (hQ : ∀ v n u, Q' v n u → Q v n u) (kk : wb_V G M pc l st N w cc cs Q') : wb_V G M pc l st N w cc cs Q := by
  intro p e s m args below meth c H locs ls Qe hC hR hl hf hq
  exact kk p e s m args below meth c H locs ls Qe hC hR hl hf (fun v N' w' H' locs' cc' cs' pc' ls' h1 => hq v N' w' H' locs' cc' cs' pc' ls' (hQ v N' w' h1))
theorem vi_ireturn (k : Nat) {x : Int32} (h : (wb_op M)[k]? = some (pc, .ireturn, nx, tg)) {ty : FieldType} (hr : wb_rt M = some ty) (hn : narrow ty (.int x) = .int x) (h1 : cc ≤ (wb_rm M).cells) (h2 : cs ≤ (wb_rm M).slots) (hQ : Q (some (.int x)) N w) : wb_V G M pc l [.int x] N w cc cs Q := by
  intro p e s m args below meth c H locs ls Qe hC hR hl hf hq
  obtain ⟨hd, hs⟩ := wb_opn hC.2.2.2.2.2.2.2.2.2 h
  have hnx : nx = pc + 1 := of_decide_eq_true hs
  subst hnx
  rw [Nat.add_sub_cancel_left] at hd
  exact hq (some (.int x)) N w H locs cc cs pc ls hQ hR hf h1 h2 (Or.inl ⟨hd, x, ty, rfl, hr, hn⟩)
theorem vi_lreturn (k : Nat) {x : Int64} (h : (wb_op M)[k]? = some (pc, .lreturn, nx, tg)) (hr : wb_rt M = some .long) (h1 : cc ≤ (wb_rm M).cells) (h2 : cs ≤ (wb_rm M).slots) (hQ : Q (some (.long x)) N w) : wb_V G M pc l [.long x] N w cc cs Q := by
  intro p e s m args below meth c H locs ls Qe hC hR hl hf hq
  obtain ⟨hd, hs⟩ := wb_opn hC.2.2.2.2.2.2.2.2.2 h
  have hnx : nx = pc + 1 := of_decide_eq_true hs
  subst hnx
  rw [Nat.add_sub_cancel_left] at hd
  exact hq (some (.long x)) N w H locs cc cs pc ls hQ hR hf h1 h2 (Or.inr (Or.inl ⟨hd, x, rfl, hr⟩))
theorem vi_areturn (k : Nat) {x : Nat} {n : String} (h : (wb_op M)[k]? = some (pc, .areturn, nx, tg)) (hr : wb_rt M = some (.object n)) (h1 : cc ≤ (wb_rm M).cells) (h2 : cs ≤ (wb_rm M).slots) (hQ : Q (some (.ref x)) N w) : wb_V G M pc l [.ref x] N w cc cs Q := by
  intro p e s m args below meth c H locs ls Qe hC hR hl hf hq
  obtain ⟨hd, hs⟩ := wb_opn hC.2.2.2.2.2.2.2.2.2 h
  have hnx : nx = pc + 1 := of_decide_eq_true hs
  subst hnx
  rw [Nat.add_sub_cancel_left] at hd
  exact hq (some (.ref x)) N w H locs cc cs pc ls hQ hR hf h1 h2 (Or.inr (Or.inr (Or.inl ⟨hd, x, n, rfl, hr⟩)))
theorem vi_return (k : Nat) (h : (wb_op M)[k]? = some (pc, .return_, nx, tg)) (hr : wb_rt M = none) (h1 : cc ≤ (wb_rm M).cells) (h2 : cs ≤ (wb_rm M).slots) (hQ : Q none N w) : wb_V G M pc l [] N w cc cs Q := by
  intro p e s m args below meth c H locs ls Qe hC hR hl hf hq
  obtain ⟨hd, hs⟩ := wb_opn hC.2.2.2.2.2.2.2.2.2 h
  have hnx : nx = pc + 1 := of_decide_eq_true hs
  subst hnx
  rw [Nat.add_sub_cancel_left] at hd
  exact hq none N w H locs cc cs pc ls hQ hR hf h1 h2 (Or.inr (Or.inr (Or.inr ⟨hd, rfl, hr⟩)))
end WBROWS
end
section
/-! ===== rows of the heap ===== -/
/-- arrays as entries of the world: ints, booleans, bytes (by a function of whole numbers), longs, references -/
def aI (n : Nat) (g : Int → Int) : va_E := .inl (0, n, .inl (fun j => wb_i (g j)))
def aZ (n : Nat) (g : Int → Int) : va_E := .inl (2, n, .inl (fun j => wb_i (g j)))
def aB (n : Nat) (g : Int → Int) : va_E := .inl (3, n, .inl (fun j => wb_i (g j)))
def aL (n : Nat) (g : Int → Int64) : va_E := .inl (1, n, .inr (.inl (fun j => g j)))
def aQ (t n : Nat) (g : Nat → Option Nat) : va_E := .inl (t, n, .inr (.inr (.inr (.inr g))))
def wb_u {α : Type} (g : Int → α) (i : Int) (v : α) : Int → α := fun j => if j = i then v else g j
def wb_CL (ci : Nat) (C : String) (T : u_T) (Nf : Nat) (ty : Nat → FieldType) : Prop := vwCl[ci]? = some (C, T, Nf) ∧ (∀ w ∈ u_ws C T Nf, w ∈ wb_GW) ∧ (∀ k, k < Nf → parseFieldDescriptor (T k).2.2.1 = some (ty k)) ∧ (∀ a, a < Nf → ∀ b, b < Nf → a ≠ b → (T a).2.1 ≠ (T b).2.1) ∧ Cond.instantiable C Nf ∈ wb_GW ∧ Cond.initialized C ∈ wb_GW
def wb_fl (o : String) (idx : Nat) (d n t : String) : Prop := Cond.fieldLink o idx d n t ∈ wb_GW ∨ ∃ host, Cond.fieldLinkNest o idx d n t host ∈ wb_NW
/-- a field's link: place fk of class ci; its type, whether it is final -/
def wb_LF (o : String) (idx ci fk : Nat) (tf : FieldType) (fin : Bool) : Prop := ∃ (C : String) (T : u_T) (Nf : Nat) (ty : Nat → FieldType), wb_CL ci C T Nf ty ∧ fk < Nf ∧ wb_fl o idx (T fk).1 (T fk).2.1 (T fk).2.2.1 ∧ ty fk = tf ∧ (T fk).2.2.2 = fin
def wb_LFF (o : String) (idx ci fk : Nat) (tf : FieldType) : Prop := ∃ (C : String) (T : u_T) (Nf : Nat) (ty : Nat → FieldType), wb_CL ci C T Nf ty ∧ fk < Nf ∧ Cond.fieldLink o idx (T fk).1 (T fk).2.1 (T fk).2.2.1 ∈ wb_GW ∧ ty fk = tf ∧ (T fk).2.2.2 = true ∧ (T fk).1 = o
def wb_LN (o : String) (idx ci : Nat) (fs : List Value) : Prop := ∃ (C : String) (T : u_T) (ty : Nat → FieldType), wb_CL ci C T fs.length ty ∧ Cond.classLink o idx C ∈ wb_GW ∧ (∀ j, j < fs.length → defaultValue (ty j) = vp_V fs j)
theorem wb_one {D : va_G} {a : Nat} {e : va_E} {H : Heap} (h : va_at D vwCl (a, e) H) : va_P D vwCl [(a, e)] H := by
  intro k q hk
  cases k with
  | zero => cases hk; exact h
  | succ k => simp at hk
theorem wb_R.at {G : wb_G} {s : State} {H : Heap} {N : Nat} {w : wb_W} (h : wb_R G s H N w) {k : Nat} {e : va_E} (hw : w k = e) (he : e ≠ wb_no) : 3 ≤ k ∧ k < N ∧ va_at (wb_gD G) vwCl (wb_ad G k, wb_tE G e) H := by
  obtain ⟨h1, h2⟩ := h.rng (k := k) (by rw [hw]; exact he)
  have := h.2.2.1 k h1 h2
  rw [hw] at this
  exact ⟨h1, h2, this⟩
theorem wb_lf {s : State} {args : Array Value} {w : Cond} (hC : ∀ w ∈ wb_GW, w.before args s = true) (h : w ∈ wb_GW) : w.before args s = true := hC w h
section WBHEAP
variable {G : wb_G} {M : wb_MD} {pc nx tg : Nat} {l : List (Nat × Value)} {st : List Value} {N : Nat} {w : wb_W} {cc cs : Nat} {Q : Option Value → Nat → wb_W → Prop}
theorem vi_get (k : Nat) {idx q ci fk : Nat} {fs : List Value} {v : Value} {tf : FieldType} {fin : Bool} (h : (wb_op M)[k]? = some (pc, .getfield idx, nx, tg)) (hL : wb_LF (wb_nm M).cls idx ci fk tf fin) (hw : w q = .inr (ci, fs)) (hc : Nat.blt ci 99 = true) (hv : fs[fk]? = some v) (kk : wb_V G M nx l (v :: st) N w cc cs Q) : wb_V G M pc l (.ref q :: st) N w cc cs Q := by
  intro p e s m args below meth c H locs ls Qe hC hR hl hf hq
  obtain ⟨hd, hs⟩ := wb_opn hC.2.2.2.2.2.2.2.2.2 h
  have hnx : nx = pc + 3 := of_decide_eq_true hs
  subst hnx
  rw [Nat.add_sub_cancel_left] at hd
  obtain ⟨C, T, Nf, ty, hCL, hfk, hlk, -, -⟩ := hL
  obtain ⟨-, -, ha⟩ := hR.at hw (by intro q; unfold wb_no at q; cases q; exact absurd hc (by decide))
  have K := kk p e s m args below meth c H locs ls Qe hC hR hl hf hq
  rcases hlk with hlk | ⟨host, hlk⟩
  · exact va_get hC.1 hC.2.1 hC.2.2.2.2.2.2.2.1 hCL.2.1 hC.2.2.2.2.2.2.1 hC.2.2.2.2.2.2.2.2.1.1 (wb_one ha) 0 rfl hCL.1 fk hfk (hC.2.2.2.2.2.2.2.1 _ hlk) (fun _ h => h) (by rw [List.getElem?_map, hv]; rfl) hd K
  · exact va_getN hC.1 hC.2.1 hC.2.2.2.2.2.2.2.1 hCL.2.1 hC.2.2.2.2.2.2.1 hC.2.2.2.2.2.2.2.2.1.1 (wb_one ha) 0 rfl hCL.1 fk hfk (va_Nw.use rfl (hC.2.2.2.2.2.2.2.2.1.2.1 _ hlk)) (fun _ h => h) (by rw [List.getElem?_map, hv]; rfl) hd K
theorem vi_put (k : Nat) {idx q ci fk : Nat} {fs : List Value} {v : Value} {tf : FieldType} (h : (wb_op M)[k]? = some (pc, .putfield idx, nx, tg)) (hL : wb_LF (wb_nm M).cls idx ci fk tf false) (hw : w q = .inr (ci, fs)) (hc : Nat.blt ci 99 = true) (hlen : Nat.blt fk fs.length = true) (hn : narrow tf (wb_tr G v) = wb_tr G v) (hft : fits tf (wb_tr G v) = true) (kk : wb_V G M nx l st N (va_up w q (.inr (ci, fs.set fk v))) cc cs Q) : wb_V G M pc l (v :: .ref q :: st) N w cc cs Q := by
  intro p e s m args below meth c H locs ls Qe hC hR hl hf hq
  obtain ⟨hd, hs⟩ := wb_opn hC.2.2.2.2.2.2.2.2.2 h
  have hnx : nx = pc + 3 := of_decide_eq_true hs
  subst hnx
  rw [Nat.add_sub_cancel_left] at hd
  obtain ⟨C, T, Nf, ty, hCL, hfk, hlk, hty, hfin⟩ := hL
  obtain ⟨h3, hqN, ha⟩ := hR.at hw (by intro q; unfold wb_no at q; cases q; exact absurd hc (by decide))
  have hK := hC.2.2.2.2.2.2.2.2.1.1
  have hap := va_apart (own := (wb_nm M).cls) hC.2.2.2.2.2.2.2.1 hCL.2.1 ty hCL.2.2.1 hCL.2.2.2.1 hK hCL.1
  obtain ⟨r, h1, cell, q1, q2, q3, q4⟩ := ha
  have hr : r = (C, T, Nf) := Option.some.inj (h1.symm.trans hCL.1)
  subst hr
  obtain ⟨hS, hfc, kC, hkC, hkind⟩ := hK.1 ci _ hCL.1
  obtain ⟨cf, kf, fi, f, hi, hsl⟩ := hS fk hfk
  have hlay := hC.2.2.2.2.2.2.2.1 _ (hCL.2.1 _ (u_in_lay hfk))
  unfold u_lay at hlay
  rw [if_neg (by rw [hfin]; decide)] at hlay
  have hst := (u_facts hfc hkC (u_lays hC.2.2.2.2.2.2.2.1 hCL.2.1 hfk) hi).1
  have h6 := u_store hfc hkC hkind hlay hi (hCL.2.2.1 fk hfk) (by rw [hty]; exact hn) (by rw [hty]; exact hft)
  have go : ∀ H1 : Heap, H1[wb_ad G q]? = some (cell.setSlot f.slot (wb_tr G v)) → H1.size = H.size → (∀ x, x ≠ wb_ad G q → H1[x]? = H[x]?) → W p (wb_gl G) e (wb_rm M) s m args below meth c H1 (locs ++ [⟨wb_ad G q, f.slot⟩]) cc cs Qe (F0 m (pc + 3) ls (st.map (wb_tr G))) := by
    intro H1 e1 e2 e3
    rw [hsl] at e1 ⊢
    refine kk p e s m args below meth c H1 _ ls Qe hC (hR.set h3 hqN e2 e3 ?_) hl (fun x hx => ?_) hq
    · refine ⟨_, hCL.1, t_OB.to (V := updV (vp_V (fs.map (wb_tr G))) fk (wb_tr G v)) ⟨_, e1, q2, q3, t_set q4 hap hfk (wb_tr G v)⟩ (fun j _ => ?_)⟩
      rw [List.map_set]
      exact vp_updV_set (by rw [List.length_map]; exact wb_lt hlen) _ j
    · rcases List.mem_append.mp hx with hx | hx
      · exact hf x hx
      · rw [List.mem_singleton.mp hx]
        show wb_gb G ≤ wb_ad G q
        unfold wb_ad
        rw [if_neg (by omega)]
        omega
  rcases hlk with hlk | ⟨host, hlk⟩
  · exact W.putK hC.1 hC.2.1 (f := f) ⟨hC.2.2.2.2.2.2.1, hC.2.2.2.2.2.2.2.1 _ hlk, ⟨_, _, _, hi⟩, hst⟩ (by rw [q2]; exact h6) q1 q3 (by rw [hsl]; exact k2_hasslot (q4 fk hfk)) rfl rfl hd go
  · exact va_WputK hC.1 hC.2.1 (f := f) hC.2.2.2.2.2.2.1 (va_Nw.use rfl (hC.2.2.2.2.2.2.2.2.1.2.1 _ hlk)) hi hst (by rw [q2]; exact h6) q1 q3 (by rw [hsl]; exact k2_hasslot (q4 fk hfk)) rfl rfl hd go
theorem vi_putF (k : Nat) {idx q ci fk : Nat} {fs : List Value} {v : Value} {tf : FieldType} (h : (wb_op M)[k]? = some (pc, .putfield idx, nx, tg)) (hL : wb_LFF (wb_nm M).cls idx ci fk tf) (hini : (wb_nm M).name = "<init>") (hw : w q = .inr (ci, fs)) (hc : Nat.blt ci 99 = true) (hlen : Nat.blt fk fs.length = true) (hn : narrow tf (wb_tr G v) = wb_tr G v) (hft : fits tf (wb_tr G v) = true) (kk : wb_V G M nx l st N (va_up w q (.inr (ci, fs.set fk v))) cc cs Q) : wb_V G M pc l (v :: .ref q :: st) N w cc cs Q := by
  intro p e s m args below meth c H locs ls Qe hC hR hl hf hq
  obtain ⟨hd, hs⟩ := wb_opn hC.2.2.2.2.2.2.2.2.2 h
  have hnx : nx = pc + 3 := of_decide_eq_true hs
  subst hnx
  rw [Nat.add_sub_cancel_left] at hd
  obtain ⟨C, T, Nf, ty, hCL, hfk, hlk, hty, hfin, hdecl⟩ := hL
  obtain ⟨h3, hqN, ha⟩ := hR.at hw (by intro q; unfold wb_no at q; cases q; exact absurd hc (by decide))
  have hK := hC.2.2.2.2.2.2.2.2.1.1
  have hown := hC.2.2.2.2.2.2.1
  have hap := va_apart (own := (wb_nm M).cls) hC.2.2.2.2.2.2.2.1 hCL.2.1 ty hCL.2.2.1 hCL.2.2.2.1 hK hCL.1
  obtain ⟨r, h1, cell, q1, q2, q3, q4⟩ := ha
  have hr : r = (C, T, Nf) := Option.some.inj (h1.symm.trans hCL.1)
  subst hr
  obtain ⟨hS, hfc, kC, hkC, hkind⟩ := hK.1 ci _ hCL.1
  obtain ⟨cf, kf, fi, f, hi, hsl⟩ := hS fk hfk
  have hlay := hC.2.2.2.2.2.2.2.1 _ (hCL.2.1 _ (u_in_lay hfk))
  unfold u_lay at hlay
  rw [if_pos hfin] at hlay
  have hst := (u_facts hfc hkC (u_lays hC.2.2.2.2.2.2.2.1 hCL.2.1 hfk) hi).1
  have hcf : m.cls = cf := by
    obtain ⟨_, _, c', _, _, _, -, -, hf', -, -, -, hown2, -⟩ := Cond.laysFinal_spec hlay
    have e1 : c' = cf := by have := hi.symm.trans hf'; simp at this; exact this.1.symm
    rw [hdecl] at hown2
    rw [← e1]; exact Option.some.inj (hown.symm.trans hown2)
  have h6 := u_fits hfc hkC hkind (Or.inr hlay) hi (hCL.2.2.1 fk hfk) (by rw [hty]; exact hn) (by rw [hty]; exact hft)
  refine W.putFinK hC.1 hC.2.1 hown (hC.2.2.2.2.2.2.2.1 _ hlk) hi hst hcf (by rw [hC.2.2.2.2.2.1]; exact hini) (by rw [q2]; exact h6) q1 q3 (by rw [hsl]; exact k2_hasslot (q4 fk hfk)) rfl rfl hd fun H1 e1 e2 e3 => ?_
  rw [hsl] at e1 ⊢
  refine kk p e s m args below meth c H1 _ ls Qe hC (hR.set h3 hqN e2 e3 ?_) hl (fun x hx => ?_) hq
  · refine ⟨_, hCL.1, t_OB.to (V := updV (vp_V (fs.map (wb_tr G))) fk (wb_tr G v)) ⟨_, e1, q2, q3, t_set q4 hap hfk (wb_tr G v)⟩ (fun j _ => ?_)⟩
    rw [List.map_set]
    exact vp_updV_set (by rw [List.length_map]; exact wb_lt hlen) _ j
  · rcases List.mem_append.mp hx with hx | hx
    · exact hf x hx
    · rw [List.mem_singleton.mp hx]
      show wb_gb G ≤ wb_ad G q
      unfold wb_ad
      rw [if_neg (by omega)]
      omega
end WBHEAP
end
section
/-! ===== rows of arrays, of new cells, of statics and of the script ===== -/
section WBARR
variable {G : wb_G} {M : wb_MD} {pc nx tg : Nat} {l : List (Nat × Value)} {st : List Value} {N : Nat} {w : wb_W} {cc cs : Nat} {Q : Option Value → Nat → wb_W → Prop}
theorem wb_adge {G : wb_G} {q : Nat} (h3 : 3 ≤ q) : wb_gb G ≤ wb_ad G q := by
  unfold wb_ad
  rw [if_neg (by omega)]
  omega
theorem wb_locs {G : wb_G} {locs : List Loc} {q k : Nat} (hf : ∀ x ∈ locs, wb_gb G ≤ x.base) (h3 : 3 ≤ q) : ∀ x ∈ locs ++ [⟨wb_ad G q, k⟩], wb_gb G ≤ x.base := by
  intro x hx
  rcases List.mem_append.mp hx with hx | hx
  · exact hf x hx
  · rw [List.mem_singleton.mp hx]
    exact wb_adge h3
theorem wb_narZ {x : Int} (h : x = 0 ∨ x = 1) : narrow .boolean (.int (wb_i x)) = .int (wb_i x) := by rcases h with rfl | rfl <;> rfl
theorem wb_fitZ {x : Int} (h : x = 0 ∨ x = 1) : fits .boolean (.int (wb_i x)) = true := by rcases h with rfl | rfl <;> rfl
theorem wb_narB {x : Int} (h : -128 ≤ x ∧ x ≤ 127) : narrow .byte (.int (wb_i x)) = .int (wb_i x) := by
  show Value.int (wb_i x).toInt8.toInt32 = .int (wb_i x)
  congr 1
  rw [← wb_i8 h.1 h.2]
  simp

theorem vi_iald (k : Nat) {q n : Nat} {g : Int → Int} {i : Int} (h : (wb_op M)[k]? = some (pc, .iaload, nx, tg)) (hw : w q = aI n g) (hi : 0 ≤ i ∧ i < n ∧ i ≤ 2147483647) (kk : wb_V G M nx l (.int (wb_i (g i)) :: st) N w cc cs Q) : wb_V G M pc l (.int (wb_i i) :: .ref q :: st) N w cc cs Q := by
  intro p e s m args below meth c H locs ls Qe hC hR hl hf hq
  obtain ⟨hd, hs⟩ := wb_opn hC.2.2.2.2.2.2.2.2.2 h
  have hnx : nx = pc + 1 := of_decide_eq_true hs
  subst hnx
  rw [Nat.add_sub_cancel_left] at hd
  obtain ⟨-, -, ha⟩ := hR.at hw (by intro q; unfold wb_no aI at q; cases q)
  have K := kk p e s m args below meth c H locs ls Qe hC hR hl hf hq
  have e1 : wb_i (g (((wb_i i).toNatClampNeg : Nat) : Int)) = wb_i (g i) := by rw [wb_i_cl hi.1 hi.2.2]
  refine va_iald hC.1 hC.2.1 hC.2.2.2.2.2.2.2.2.1.1 (wb_one ha) 0 0 rfl rfl (wb_i_in hi.1 hi.2.1 hi.2.2) hd ?_
  (try dsimp only)
  rw [e1]
  exact K
theorem vi_iast (k : Nat) {q n : Nat} {g : Int → Int} {i x : Int} (h : (wb_op M)[k]? = some (pc, .iastore, nx, tg)) (hw : w q = aI n g) (hi : 0 ≤ i ∧ i < n ∧ i ≤ 2147483647) (kk : wb_V G M nx l st N (va_up w q (aI n (wb_u g i x))) cc cs Q) : wb_V G M pc l (.int (wb_i x) :: .int (wb_i i) :: .ref q :: st) N w cc cs Q := by
  intro p e s m args below meth c H locs ls Qe hC hR hl hf hq
  obtain ⟨hd, hs⟩ := wb_opn hC.2.2.2.2.2.2.2.2.2 h
  have hnx : nx = pc + 1 := of_decide_eq_true hs
  subst hnx
  rw [Nat.add_sub_cancel_left] at hd
  obtain ⟨h3, hqN, ha⟩ := hR.at hw (by intro q; unfold wb_no aI at q; cases q)
  have ecl := wb_i_cl hi.1 hi.2.2
  refine W.iast hC.1 hC.2.1 ha ((hC.2.2.2.2.2.2.2.2.1.1.2 0 _ rfl).1 n (fun j => .int (wb_i (g j)))) (fun q => by cases q) (by show ¬ (_ < 0 ∨ (arrV _ _ _).slots.size ≤ _); rw [arrV_size]; exact wb_i_in hi.1 hi.2.1 hi.2.2) rfl rfl hd fun H1 e1 z oq => ?_
  refine kk p e s m args below meth c H1 _ ls Qe hC (hR.set h3 hqN z oq ?_) hl (wb_locs hf h3) hq
  show H1[wb_ad G q]? = some (vp_cell _ _)
  rw [e1, show wb_tA G (n, Sum.inl fun j : Nat => wb_i (g j)) = (n, Sum.inl fun j : Nat => wb_i (g j)) from rfl, show wb_tA G (n, Sum.inl fun j : Nat => wb_i (wb_u g i x j)) = (n, Sum.inl fun j : Nat => wb_i (wb_u g i x j)) from rfl, vp_cell_i, vp_cell_i, arrV_store]
  congr 2
  funext j
  by_cases hj : j = (wb_i i).toNatClampNeg
  · subst hj
    simp [updV, wb_u, ecl]
  · have : ¬ (j : Int) = i := by omega
    simp [updV, wb_u, hj, this]
theorem vi_zald (k : Nat) {q n : Nat} {g : Int → Int} {i : Int} (h : (wb_op M)[k]? = some (pc, .baload, nx, tg)) (hw : w q = aZ n g) (hi : 0 ≤ i ∧ i < n ∧ i ≤ 2147483647) (kk : wb_V G M nx l (.int (wb_i (g i)) :: st) N w cc cs Q) : wb_V G M pc l (.int (wb_i i) :: .ref q :: st) N w cc cs Q := by
  intro p e s m args below meth c H locs ls Qe hC hR hl hf hq
  obtain ⟨hd, hs⟩ := wb_opn hC.2.2.2.2.2.2.2.2.2 h
  have hnx : nx = pc + 1 := of_decide_eq_true hs
  subst hnx
  rw [Nat.add_sub_cancel_left] at hd
  obtain ⟨-, -, ha⟩ := hR.at hw (by intro q; unfold wb_no aZ at q; cases q)
  have K := kk p e s m args below meth c H locs ls Qe hC hR hl hf hq
  have e1 : wb_i (g (((wb_i i).toNatClampNeg : Nat) : Int)) = wb_i (g i) := by rw [wb_i_cl hi.1 hi.2.2]
  refine va_zald hC.1 hC.2.1 hC.2.2.2.2.2.2.2.2.1.1 (wb_one ha) 0 2 rfl rfl (wb_i_in hi.1 hi.2.1 hi.2.2) hd ?_
  (try dsimp only)
  rw [e1]
  exact K
theorem vi_zast (k : Nat) {q n : Nat} {g : Int → Int} {i x : Int} (h : (wb_op M)[k]? = some (pc, .bastore, nx, tg)) (hw : w q = aZ n g) (hi : 0 ≤ i ∧ i < n ∧ i ≤ 2147483647) (hx : x = 0 ∨ x = 1) (kk : wb_V G M nx l st N (va_up w q (aZ n (wb_u g i x))) cc cs Q) : wb_V G M pc l (.int (wb_i x) :: .int (wb_i i) :: .ref q :: st) N w cc cs Q := by
  intro p e s m args below meth c H locs ls Qe hC hR hl hf hq
  obtain ⟨hd, hs⟩ := wb_opn hC.2.2.2.2.2.2.2.2.2 h
  have hnx : nx = pc + 1 := of_decide_eq_true hs
  subst hnx
  rw [Nat.add_sub_cancel_left] at hd
  obtain ⟨h3, hqN, ha⟩ := hR.at hw (by intro q; unfold wb_no aZ at q; cases q)
  have ecl := wb_i_cl hi.1 hi.2.2
  refine W.zast hC.1 hC.2.1 ha ((hC.2.2.2.2.2.2.2.2.1.1.2 2 _ rfl).1 n (fun j => .int (wb_i (g j)))) (fun q => by cases q) (by show ¬ (_ < 0 ∨ (arrV _ _ _).slots.size ≤ _); rw [arrV_size]; exact wb_i_in hi.1 hi.2.1 hi.2.2) rfl rfl hd fun H1 e1 z oq => ?_
  refine kk p e s m args below meth c H1 _ ls Qe hC (hR.set h3 hqN z oq ?_) hl (wb_locs hf h3) hq
  show H1[wb_ad G q]? = some (vp_cell _ _)
  rw [e1, wb_narZ hx, show wb_tA G (n, Sum.inl fun j : Nat => wb_i (g j)) = (n, Sum.inl fun j : Nat => wb_i (g j)) from rfl, show wb_tA G (n, Sum.inl fun j : Nat => wb_i (wb_u g i x j)) = (n, Sum.inl fun j : Nat => wb_i (wb_u g i x j)) from rfl, vp_cell_i, vp_cell_i, arrV_store]
  congr 2
  funext j
  by_cases hj : j = (wb_i i).toNatClampNeg
  · subst hj
    simp [updV, wb_u, ecl]
  · have : ¬ (j : Int) = i := by omega
    simp [updV, wb_u, hj, this]
theorem vi_bald (k : Nat) {q n : Nat} {g : Int → Int} {i : Int} (h : (wb_op M)[k]? = some (pc, .baload, nx, tg)) (hw : w q = aB n g) (hi : 0 ≤ i ∧ i < n ∧ i ≤ 2147483647) (kk : wb_V G M nx l (.int (wb_i (g i)) :: st) N w cc cs Q) : wb_V G M pc l (.int (wb_i i) :: .ref q :: st) N w cc cs Q := by
  intro p e s m args below meth c H locs ls Qe hC hR hl hf hq
  obtain ⟨hd, hs⟩ := wb_opn hC.2.2.2.2.2.2.2.2.2 h
  have hnx : nx = pc + 1 := of_decide_eq_true hs
  subst hnx
  rw [Nat.add_sub_cancel_left] at hd
  obtain ⟨-, -, ha⟩ := hR.at hw (by intro q; unfold wb_no aB at q; cases q)
  have K := kk p e s m args below meth c H locs ls Qe hC hR hl hf hq
  have e1 : wb_i (g (((wb_i i).toNatClampNeg : Nat) : Int)) = wb_i (g i) := by rw [wb_i_cl hi.1 hi.2.2]
  refine va_bald hC.1 hC.2.1 hC.2.2.2.2.2.2.2.2.1.1 (wb_one ha) 0 3 rfl rfl (wb_i_in hi.1 hi.2.1 hi.2.2) hd ?_
  (try dsimp only)
  rw [e1]
  exact K
theorem vi_bast (k : Nat) {q n : Nat} {g : Int → Int} {i x : Int} (h : (wb_op M)[k]? = some (pc, .bastore, nx, tg)) (hw : w q = aB n g) (hi : 0 ≤ i ∧ i < n ∧ i ≤ 2147483647) (hx : -128 ≤ x ∧ x ≤ 127) (kk : wb_V G M nx l st N (va_up w q (aB n (wb_u g i x))) cc cs Q) : wb_V G M pc l (.int (wb_i x) :: .int (wb_i i) :: .ref q :: st) N w cc cs Q := by
  intro p e s m args below meth c H locs ls Qe hC hR hl hf hq
  obtain ⟨hd, hs⟩ := wb_opn hC.2.2.2.2.2.2.2.2.2 h
  have hnx : nx = pc + 1 := of_decide_eq_true hs
  subst hnx
  rw [Nat.add_sub_cancel_left] at hd
  obtain ⟨h3, hqN, ha⟩ := hR.at hw (by intro q; unfold wb_no aB at q; cases q)
  have ecl := wb_i_cl hi.1 hi.2.2
  refine W.bast hC.1 hC.2.1 ha ((hC.2.2.2.2.2.2.2.2.1.1.2 3 _ rfl).1 n (fun j => .int (wb_i (g j)))) (fun q => by cases q) (by show ¬ (_ < 0 ∨ (arrV _ _ _).slots.size ≤ _); rw [arrV_size]; exact wb_i_in hi.1 hi.2.1 hi.2.2) rfl rfl hd fun H1 e1 z oq => ?_
  refine kk p e s m args below meth c H1 _ ls Qe hC (hR.set h3 hqN z oq ?_) hl (wb_locs hf h3) hq
  show H1[wb_ad G q]? = some (vp_cell _ _)
  rw [e1, wb_narB hx, show wb_tA G (n, Sum.inl fun j : Nat => wb_i (g j)) = (n, Sum.inl fun j : Nat => wb_i (g j)) from rfl, show wb_tA G (n, Sum.inl fun j : Nat => wb_i (wb_u g i x j)) = (n, Sum.inl fun j : Nat => wb_i (wb_u g i x j)) from rfl, vp_cell_i, vp_cell_i, arrV_store]
  congr 2
  funext j
  by_cases hj : j = (wb_i i).toNatClampNeg
  · subst hj
    simp [updV, wb_u, ecl]
  · have : ¬ (j : Int) = i := by omega
    simp [updV, wb_u, hj, this]
theorem vi_lald (k : Nat) {q n : Nat} {g : Int → Int64} {i : Int} (h : (wb_op M)[k]? = some (pc, .laload, nx, tg)) (hw : w q = aL n g) (hi : 0 ≤ i ∧ i < n ∧ i ≤ 2147483647) (kk : wb_V G M nx l (.long (g i) :: st) N w cc cs Q) : wb_V G M pc l (.int (wb_i i) :: .ref q :: st) N w cc cs Q := by
  intro p e s m args below meth c H locs ls Qe hC hR hl hf hq
  obtain ⟨hd, hs⟩ := wb_opn hC.2.2.2.2.2.2.2.2.2 h
  have hnx : nx = pc + 1 := of_decide_eq_true hs
  subst hnx
  rw [Nat.add_sub_cancel_left] at hd
  obtain ⟨-, -, ha⟩ := hR.at hw (by intro q; unfold wb_no aL at q; cases q)
  have K := kk p e s m args below meth c H locs ls Qe hC hR hl hf hq
  have e1 : g (((wb_i i).toNatClampNeg : Nat) : Int) = g i := by rw [wb_i_cl hi.1 hi.2.2]
  refine va_lald hC.1 hC.2.1 hC.2.2.2.2.2.2.2.2.1.1 (wb_one ha) 0 1 rfl rfl (wb_i_in hi.1 hi.2.1 hi.2.2) hd ?_
  (try dsimp only)
  rw [e1]
  exact K
theorem vi_last (k : Nat) {q n : Nat} {g : Int → Int64} {i : Int} {x : Int64} (h : (wb_op M)[k]? = some (pc, .lastore, nx, tg)) (hw : w q = aL n g) (hi : 0 ≤ i ∧ i < n ∧ i ≤ 2147483647) (kk : wb_V G M nx l st N (va_up w q (aL n (wb_u g i x))) cc cs Q) : wb_V G M pc l (.long x :: .int (wb_i i) :: .ref q :: st) N w cc cs Q := by
  intro p e s m args below meth c H locs ls Qe hC hR hl hf hq
  obtain ⟨hd, hs⟩ := wb_opn hC.2.2.2.2.2.2.2.2.2 h
  have hnx : nx = pc + 1 := of_decide_eq_true hs
  subst hnx
  rw [Nat.add_sub_cancel_left] at hd
  obtain ⟨h3, hqN, ha⟩ := hR.at hw (by intro q; unfold wb_no aL at q; cases q)
  have ecl := wb_i_cl hi.1 hi.2.2
  refine W.last hC.1 hC.2.1 ha ((hC.2.2.2.2.2.2.2.2.1.1.2 1 _ rfl).1 n (fun j => .long (g j))) (fun q => by cases q) (by show ¬ (_ < 0 ∨ (arrV _ _ _).slots.size ≤ _); rw [arrV_size]; exact wb_i_in hi.1 hi.2.1 hi.2.2) rfl rfl hd fun H1 e1 z oq => ?_
  refine kk p e s m args below meth c H1 _ ls Qe hC (hR.set h3 hqN z oq ?_) hl (wb_locs hf h3) hq
  show H1[wb_ad G q]? = some (vp_cell _ _)
  rw [e1, show wb_tA G (n, Sum.inr (Sum.inl fun j : Nat => g j)) = (n, Sum.inr (Sum.inl fun j : Nat => g j)) from rfl, show wb_tA G (n, Sum.inr (Sum.inl fun j : Nat => wb_u g i x j)) = (n, Sum.inr (Sum.inl fun j : Nat => wb_u g i x j)) from rfl, vp_cell_l, vp_cell_l, arrV_store]
  congr 2
  funext j
  by_cases hj : j = (wb_i i).toNatClampNeg
  · subst hj
    simp [updV, wb_u, ecl]
  · have : ¬ (j : Int) = i := by omega
    simp [updV, wb_u, hj, this]
theorem vi_alen (k : Nat) {q t n : Nat} {b : (Nat → Int32) ⊕ (Nat → Int64) ⊕ (Nat → UInt32) ⊕ (Nat → UInt64) ⊕ (Nat → Option Nat)} (h : (wb_op M)[k]? = some (pc, .arraylength, nx, tg)) (hw : w q = .inl (t, n, b)) (ht : Nat.blt t 6 = true) (kk : wb_V G M nx l (.int (wb_i n) :: st) N w cc cs Q) : wb_V G M pc l (.ref q :: st) N w cc cs Q := by
  intro p e s m args below meth c H locs ls Qe hC hR hl hf hq
  obtain ⟨hd, hs⟩ := wb_opn hC.2.2.2.2.2.2.2.2.2 h
  have hnx : nx = pc + 1 := of_decide_eq_true hs
  subst hnx
  rw [Nat.add_sub_cancel_left] at hd
  obtain ⟨-, -, ha⟩ := hR.at hw (by intro q; unfold wb_no at q; cases q)
  have K := kk p e s m args below meth c H locs ls Qe hC hR hl hf hq
  obtain ⟨ty, hty⟩ : ∃ ty, (wb_ty G)[t]? = some (wb_gc G t, ty) := by
    have := wb_lt ht
    rcases (show t = 0 ∨ t = 1 ∨ t = 2 ∨ t = 3 ∨ t = 4 ∨ t = 5 by omega) with rfl | rfl | rfl | rfl | rfl | rfl <;> exact ⟨_, rfl⟩
  have hlen : (wb_tA G (n, b)).1 = n := by unfold wb_tA; split <;> simp_all
  refine va_alen (tys := wb_ty G) hC.1 hC.2.1 hC.2.2.2.2.2.2.2.2.1.1 (wb_one ha) 0 t rfl hty (v := wb_i n) ?_ hd K
  rw [hlen, wb_i_nat]
  rfl
/-- the arrays that lie below the base: the script, STOCK_MOST, CELL_MOST -/
theorem vi_xald (k : Nat) {q : Nat} {i : Int} (h : (wb_op M)[k]? = some (pc, .iaload, nx, tg)) (hq3 : Nat.blt q 3 = true) (hi : 0 ≤ i ∧ i < wb_xL G q ∧ i ≤ 2147483647) (kk : wb_V G M nx l (.int (wb_xF G q i.toNat) :: st) N w cc cs Q) : wb_V G M pc l (.int (wb_i i) :: .ref q :: st) N w cc cs Q := by
  intro p e s m args below meth c H locs ls Qe hC hR hl hf hq
  obtain ⟨hd, hs⟩ := wb_opn hC.2.2.2.2.2.2.2.2.2 h
  have hnx : nx = pc + 1 := of_decide_eq_true hs
  subst hnx
  rw [Nat.add_sub_cancel_left] at hd
  obtain ⟨scr, h1, h2, h3, h4, h5, h6⟩ := (hR.2.2.2.1 q (wb_lt hq3)).2
  have K := kk p e s m args below meth c H locs ls Qe hC hR hl hf hq
  have ecl := wb_i_cl hi.1 hi.2.2
  have ecn : (wb_i i).toNatClampNeg = i.toNat := by omega
  have had : wb_ad G q = wb_gx G q := by unfold wb_ad; rw [if_pos (wb_lt hq3)]
  refine W.iald (a := wb_ad G q) (cell := scr) (v := .int (wb_xF G q i.toNat)) hC.1 hC.2.1 (by rw [had]; exact h1) h2 h3 (fun z => wb_i_in hi.1 hi.2.1 hi.2.2 (z.elim Or.inl (fun q => Or.inr (Nat.le_trans h4 q)))) (by rw [ecn]; exact h6 _ (by omega)) rfl rfl hd K
theorem vi_xlen (k : Nat) {q : Nat} (h : (wb_op M)[k]? = some (pc, .arraylength, nx, tg)) (hq3 : Nat.blt q 3 = true) (kk : wb_V G M nx l (.int (wb_i (wb_xL G q)) :: st) N w cc cs Q) : wb_V G M pc l (.ref q :: st) N w cc cs Q := by
  intro p e s m args below meth c H locs ls Qe hC hR hl hf hq
  obtain ⟨hd, hs⟩ := wb_opn hC.2.2.2.2.2.2.2.2.2 h
  have hnx : nx = pc + 1 := of_decide_eq_true hs
  subst hnx
  rw [Nat.add_sub_cancel_left] at hd
  obtain ⟨scr, h1, h2, h3, h4, h5, h6⟩ := (hR.2.2.2.1 q (wb_lt hq3)).2
  have K := kk p e s m args below meth c H locs ls Qe hC hR hl hf hq
  have had : wb_ad G q = wb_gx G q := by unfold wb_ad; rw [if_pos (wb_lt hq3)]
  refine W.alen (a := wb_ad G q) (cell := scr) (n := wb_i (wb_xL G q)) hC.1 hC.2.1 (by rw [had]; exact h1) h2 (by rw [h5, wb_i_nat]; rfl) rfl rfl hd K
theorem vi_gets (k : Nat) {idx q : Nat} {nm : String} (h : (wb_op M)[k]? = some (pc, .getstatic idx, nx, tg)) (hL : wb_fl (wb_nm M).cls idx RX11 nm "[I") (hx : (nm = "STOCK_MOST" ∧ q = 1) ∨ (nm = "CELL_MOST" ∧ q = 2)) (kk : wb_V G M nx l (.ref q :: st) N w cc cs Q) : wb_V G M pc l st N w cc cs Q := by
  intro p e s m args below meth c H locs ls Qe hC hR hl hf hq
  obtain ⟨hd, hs⟩ := wb_opn hC.2.2.2.2.2.2.2.2.2 h
  have hnx : nx = pc + 3 := of_decide_eq_true hs
  subst hnx
  rw [Nat.add_sub_cancel_left] at hd
  have K := kk p e s m args below meth c H locs ls Qe hC hR hl hf hq
  have hZ : va_Z RX11 nm "[I" (.ref (wb_gx G q)) (fun q => wb_gb G ≤ q) s H := by
    rcases hx with ⟨rfl, rfl⟩ | ⟨rfl, rfl⟩
    · exact hR.2.2.2.2.1
    · exact hR.2.2.2.2.2.1
  have had : wb_tr G (.ref q) = .ref (wb_gx G q) := by
    have : q < 3 := by rcases hx with ⟨-, rfl⟩ | ⟨-, rfl⟩ <;> omega
    unfold wb_tr wb_ad
    simp [this]
  rw [List.map_cons, had] at K
  obtain ⟨cf, kf, fi, f, a, cell, h1, h2, h3, h4, h5, h6, h7, h8⟩ := hZ
  rcases hL with hlk | ⟨host, hlk⟩
  · exact W.gets hC.1 hC.2.1 hC.2.2.2.2.2.2.1 (hC.2.2.2.2.2.2.2.1 _ hlk) h1 h2 h3 h4 h5 (fun e => by rw [e] at h6; cases h6) h7 rfl hd K
  · exact va_WgetsN hC.1 hC.2.1 hC.2.2.2.2.2.2.1 (va_Nw.use rfl (hC.2.2.2.2.2.2.2.2.1.2.1 _ hlk)) h1 h2 h3 h4 h5 (fun e => by rw [e] at h6; cases h6) h7 rfl hd K
theorem vi_new (k : Nat) {idx ci : Nat} {fs : List Value} (h : (wb_op M)[k]? = some (pc, .new idx, nx, tg)) (hL : wb_LN (wb_nm M).cls idx ci fs) (hnr : fs.map (wb_tr G) = fs) (h1 : Nat.ble (cc + 1) (wb_rm M).cells = true) (h2 : Nat.ble (cs + fs.length) (wb_rm M).slots = true) (kk : wb_V G M nx l (.ref N :: st) (N + 1) (va_up w N (.inr (ci, fs))) (cc + 1) (cs + fs.length) Q) : wb_V G M pc l st N w cc cs Q := by
  intro p e s m args below meth c H locs ls Qe hC hR hl hf hq
  obtain ⟨hd, hs⟩ := wb_opn hC.2.2.2.2.2.2.2.2.2 h
  have hnx : nx = pc + 3 := of_decide_eq_true hs
  subst hnx
  rw [Nat.add_sub_cancel_left] at hd
  obtain ⟨C, T, ty, hCL, hcl, hfs⟩ := hL
  have hK := hC.2.2.2.2.2.2.2.2.1.1
  have hts := hC.2.2.2.2.2.2.2.1
  have hKn := hK.1 ci _ hCL.1
  refine W.newcK hC.1 hC.2.1 hC.2.2.2.2.2.2.1 (hts _ hcl) (hts _ hCL.2.2.2.2.1) (hts _ hCL.2.2.2.2.2) rfl hd (Nat.le_of_ble_eq_true h1) (Nat.le_of_ble_eq_true h2) hKn.2.1 rfl fun H1 kC hkC e1 z1 o1 => ?_
  have hadN : wb_ad G N = H.size := by unfold wb_ad; rw [if_neg (by have := hR.1; omega), hR.2.1]
  have K := kk p e s m args below meth c H1 locs ls Qe hC (hR.push z1 o1 ⟨_, hCL.1, by rw [hnr]; exact (u_born ty hts hCL.2.1 hKn hkC e1 hCL.2.2.1).to hfs⟩) hl hf hq
  rw [List.map_cons, show wb_tr G (.ref N) = .ref H.size from congrArg Value.ref hadN] at K
  exact K

theorem vi_newaI (k : Nat) {i : Int} (n : Nat) (h : (wb_op M)[k]? = some (pc, .newarray .int, nx, tg)) (hL : Cond.arrayClass .int ∈ wb_GW) (hn : i = n) (hn2 : n ≤ 65536) (h1 : Nat.ble (cc + 1) (wb_rm M).cells = true) (h2 : Nat.ble (cs + n) (wb_rm M).slots = true) (kk : wb_V G M nx l (.ref N :: st) (N + 1) (va_up w N (aI n (fun _ => 0))) (cc + 1) (cs + n) Q) : wb_V G M pc l (.int (wb_i i) :: st) N w cc cs Q := by
  intro p e s m args below meth c H locs ls Qe hC hR hl hf hq
  obtain ⟨hd, hs⟩ := wb_opn hC.2.2.2.2.2.2.2.2.2 h
  have hnx : nx = pc + 2 := of_decide_eq_true hs
  subst hnx
  rw [Nat.add_sub_cancel_left] at hd
  subst hn
  have ecl := wb_i_cl (a := (n : Int)) (by omega) (by omega)
  have hK := hC.2.2.2.2.2.2.2.2.1.1
  refine va_newaK (atype := .int) hC.1 hC.2.1 (hC.2.2.2.2.2.2.2.1 _ hL) rfl hd rfl (N := n) (by rw [show (0 : Int32) = wb_i 0 from rfl, wb_i_lt (by omega) (by omega)]; omega) (by omega) (by show n * _ ≤ _; simp only [newarray.typeOf, componentBytes]; omega) (Nat.le_of_ble_eq_true h1) (Nat.le_of_ble_eq_true h2) rfl fun H1 cA e1 z1 o1 hAr hNm => ?_
  have hcA : cA = wb_gc G 0 := Option.some.inj (hNm.symm.trans (hK.2 0 _ rfl).2)
  subst hcA
  have hadN : wb_ad G N = H.size := by unfold wb_ad; rw [if_neg (by have := hR.1; omega), hR.2.1]
  have K := kk p e s m args below meth c H1 locs ls Qe hC (hR.push z1 o1 (by show H1[H.size]? = some (vp_cell _ _); exact e1)) hl hf hq
  rw [List.map_cons, show wb_tr G (.ref N) = .ref H.size from congrArg Value.ref hadN] at K
  exact K
theorem vi_newaZ (k : Nat) {i : Int} (n : Nat) (h : (wb_op M)[k]? = some (pc, .newarray .boolean, nx, tg)) (hL : Cond.arrayClass .boolean ∈ wb_GW) (hn : i = n) (hn2 : n ≤ 65536) (h1 : Nat.ble (cc + 1) (wb_rm M).cells = true) (h2 : Nat.ble (cs + n) (wb_rm M).slots = true) (kk : wb_V G M nx l (.ref N :: st) (N + 1) (va_up w N (aZ n (fun _ => 0))) (cc + 1) (cs + n) Q) : wb_V G M pc l (.int (wb_i i) :: st) N w cc cs Q := by
  intro p e s m args below meth c H locs ls Qe hC hR hl hf hq
  obtain ⟨hd, hs⟩ := wb_opn hC.2.2.2.2.2.2.2.2.2 h
  have hnx : nx = pc + 2 := of_decide_eq_true hs
  subst hnx
  rw [Nat.add_sub_cancel_left] at hd
  subst hn
  have ecl := wb_i_cl (a := (n : Int)) (by omega) (by omega)
  have hK := hC.2.2.2.2.2.2.2.2.1.1
  refine va_newaK (atype := .boolean) hC.1 hC.2.1 (hC.2.2.2.2.2.2.2.1 _ hL) rfl hd rfl (N := n) (by rw [show (0 : Int32) = wb_i 0 from rfl, wb_i_lt (by omega) (by omega)]; omega) (by omega) (by show n * _ ≤ _; simp only [newarray.typeOf, componentBytes]; omega) (Nat.le_of_ble_eq_true h1) (Nat.le_of_ble_eq_true h2) rfl fun H1 cA e1 z1 o1 hAr hNm => ?_
  have hcA : cA = wb_gc G 2 := Option.some.inj (hNm.symm.trans (hK.2 2 _ rfl).2)
  subst hcA
  have hadN : wb_ad G N = H.size := by unfold wb_ad; rw [if_neg (by have := hR.1; omega), hR.2.1]
  have K := kk p e s m args below meth c H1 locs ls Qe hC (hR.push z1 o1 (by show H1[H.size]? = some (vp_cell _ _); exact e1)) hl hf hq
  rw [List.map_cons, show wb_tr G (.ref N) = .ref H.size from congrArg Value.ref hadN] at K
  exact K
theorem vi_newaB (k : Nat) {i : Int} (n : Nat) (h : (wb_op M)[k]? = some (pc, .newarray .byte, nx, tg)) (hL : Cond.arrayClass .byte ∈ wb_GW) (hn : i = n) (hn2 : n ≤ 65536) (h1 : Nat.ble (cc + 1) (wb_rm M).cells = true) (h2 : Nat.ble (cs + n) (wb_rm M).slots = true) (kk : wb_V G M nx l (.ref N :: st) (N + 1) (va_up w N (aB n (fun _ => 0))) (cc + 1) (cs + n) Q) : wb_V G M pc l (.int (wb_i i) :: st) N w cc cs Q := by
  intro p e s m args below meth c H locs ls Qe hC hR hl hf hq
  obtain ⟨hd, hs⟩ := wb_opn hC.2.2.2.2.2.2.2.2.2 h
  have hnx : nx = pc + 2 := of_decide_eq_true hs
  subst hnx
  rw [Nat.add_sub_cancel_left] at hd
  subst hn
  have ecl := wb_i_cl (a := (n : Int)) (by omega) (by omega)
  have hK := hC.2.2.2.2.2.2.2.2.1.1
  refine va_newaK (atype := .byte) hC.1 hC.2.1 (hC.2.2.2.2.2.2.2.1 _ hL) rfl hd rfl (N := n) (by rw [show (0 : Int32) = wb_i 0 from rfl, wb_i_lt (by omega) (by omega)]; omega) (by omega) (by show n * _ ≤ _; simp only [newarray.typeOf, componentBytes]; omega) (Nat.le_of_ble_eq_true h1) (Nat.le_of_ble_eq_true h2) rfl fun H1 cA e1 z1 o1 hAr hNm => ?_
  have hcA : cA = wb_gc G 3 := Option.some.inj (hNm.symm.trans (hK.2 3 _ rfl).2)
  subst hcA
  have hadN : wb_ad G N = H.size := by unfold wb_ad; rw [if_neg (by have := hR.1; omega), hR.2.1]
  have K := kk p e s m args below meth c H1 locs ls Qe hC (hR.push z1 o1 (by show H1[H.size]? = some (vp_cell _ _); exact e1)) hl hf hq
  rw [List.map_cons, show wb_tr G (.ref N) = .ref H.size from congrArg Value.ref hadN] at K
  exact K
theorem vi_newaL (k : Nat) {i : Int} (n : Nat) (h : (wb_op M)[k]? = some (pc, .newarray .long, nx, tg)) (hL : Cond.arrayClass .long ∈ wb_GW) (hn : i = n) (hn2 : n ≤ 65536) (h1 : Nat.ble (cc + 1) (wb_rm M).cells = true) (h2 : Nat.ble (cs + n) (wb_rm M).slots = true) (kk : wb_V G M nx l (.ref N :: st) (N + 1) (va_up w N (aL n (fun _ => 0))) (cc + 1) (cs + n) Q) : wb_V G M pc l (.int (wb_i i) :: st) N w cc cs Q := by
  intro p e s m args below meth c H locs ls Qe hC hR hl hf hq
  obtain ⟨hd, hs⟩ := wb_opn hC.2.2.2.2.2.2.2.2.2 h
  have hnx : nx = pc + 2 := of_decide_eq_true hs
  subst hnx
  rw [Nat.add_sub_cancel_left] at hd
  subst hn
  have ecl := wb_i_cl (a := (n : Int)) (by omega) (by omega)
  have hK := hC.2.2.2.2.2.2.2.2.1.1
  refine va_newaK (atype := .long) hC.1 hC.2.1 (hC.2.2.2.2.2.2.2.1 _ hL) rfl hd rfl (N := n) (by rw [show (0 : Int32) = wb_i 0 from rfl, wb_i_lt (by omega) (by omega)]; omega) (by omega) (by show n * _ ≤ _; simp only [newarray.typeOf, componentBytes]; omega) (Nat.le_of_ble_eq_true h1) (Nat.le_of_ble_eq_true h2) rfl fun H1 cA e1 z1 o1 hAr hNm => ?_
  have hcA : cA = wb_gc G 1 := Option.some.inj (hNm.symm.trans (hK.2 1 _ rfl).2)
  subst hcA
  have hadN : wb_ad G N = H.size := by unfold wb_ad; rw [if_neg (by have := hR.1; omega), hR.2.1]
  have K := kk p e s m args below meth c H1 locs ls Qe hC (hR.push z1 o1 (by show H1[H.size]? = some (vp_cell _ _); exact e1)) hl hf hq
  rw [List.map_cons, show wb_tr G (.ref N) = .ref H.size from congrArg Value.ref hadN] at K
  exact K
theorem vi_anew (k : Nat) {idx t : Nat} {i : Int} {C : String} (n : Nat) (h : (wb_op M)[k]? = some (pc, .anewarray idx, nx, tg)) (hL : Cond.classLink (wb_nm M).cls idx C ∈ wb_GW) (ht : (t = 4 ∧ C = RX0) ∨ (t = 5 ∧ C = RX2)) (hn : i = n) (hn2 : n ≤ 65536) (h1 : Nat.ble (cc + 1) (wb_rm M).cells = true) (h2 : Nat.ble (cs + n) (wb_rm M).slots = true) (kk : wb_V G M nx l (.ref N :: st) (N + 1) (va_up w N (aQ t n (fun _ => none))) (cc + 1) (cs + n) Q) : wb_V G M pc l (.int (wb_i i) :: st) N w cc cs Q := by
  intro p e s m args below meth c H locs ls Qe hC hR hl hf hq
  obtain ⟨hd, hs⟩ := wb_opn hC.2.2.2.2.2.2.2.2.2 h
  have hnx : nx = pc + 3 := of_decide_eq_true hs
  subst hnx
  rw [Nat.add_sub_cancel_left] at hd
  subst hn
  have ecl := wb_i_cl (a := (n : Int)) (by omega) (by omega)
  have ecn : (wb_i (n : Int)).toNatClampNeg = n := by omega
  have hK := hC.2.2.2.2.2.2.2.2.1.1
  have hAO : va_AO C s := by
    rcases ht with ⟨-, rfl⟩ | ⟨-, rfl⟩
    · exact hC.2.2.2.2.2.2.2.2.1.2.2.1
    · exact hC.2.2.2.2.2.2.2.2.1.2.2.2
  have hRA : s.vm.findClass ("[" ++ (FieldType.object C).toString) = some (wb_gc G t) := by
    rcases ht with ⟨rfl, rfl⟩ | ⟨rfl, rfl⟩
    · obtain ⟨_, _, _, _, _, h⟩ := (hK.2 4 _ rfl).2
      exact h
    · obtain ⟨_, _, _, _, _, h⟩ := (hK.2 5 _ rfl).2
      exact h
  refine W.anew hC.1 hC.2.1 hC.2.2.2.2.2.2.1 (hC.2.2.2.2.2.2.2.1 _ hL) (va_AO.use hAO) rfl hd rfl (by rw [show (0 : Int32) = wb_i 0 from rfl, wb_i_lt (by omega) (by omega)]; omega) (by omega) (Nat.le_of_ble_eq_true h1) (by rw [ecn]; exact Nat.le_of_ble_eq_true h2) fun cA kA comp f1 f2 f3 f4 => ?_
  have hcA : cA = wb_gc G t := Option.some.inj (f1.symm.trans hRA)
  subst hcA
  rw [ecn]
  have hadN : wb_ad G N = H.size := by unfold wb_ad; rw [if_neg (by have := hR.1; omega), hR.2.1]
  have K := kk p e s m args below meth c (H.push ({ cls := wb_gc G t, slots := Array.replicate n .null, vm := .none } : Cell)) locs ls Qe hC (hR.push (by rw [Array.size_push]) (fun q hq => by rw [Array.getElem?_push, if_neg (Nat.ne_of_lt hq)]) (by show (H.push _)[H.size]? = some (vp_cell _ _); rw [Array.getElem?_push_size, arrV_new]; rfl)) hl hf hq
  rw [List.map_cons, show wb_tr G (.ref N) = .ref H.size from congrArg Value.ref hadN] at K
  exact K
theorem vi_aald (k : Nat) {q t n r : Nat} {g : Nat → Option Nat} {i : Int} (h : (wb_op M)[k]? = some (pc, .aaload, nx, tg)) (hw : w q = aQ t n g) (ht : t = 4 ∨ t = 5) (hi : 0 ≤ i ∧ i < n ∧ i ≤ 2147483647) (hg : g i.toNat = some r) (kk : wb_V G M nx l (.ref r :: st) N w cc cs Q) : wb_V G M pc l (.int (wb_i i) :: .ref q :: st) N w cc cs Q := by
  intro p e s m args below meth c H locs ls Qe hC hR hl hf hq
  obtain ⟨hd, hs⟩ := wb_opn hC.2.2.2.2.2.2.2.2.2 h
  have hnx : nx = pc + 1 := of_decide_eq_true hs
  subst hnx
  rw [Nat.add_sub_cancel_left] at hd
  obtain ⟨-, -, ha⟩ := hR.at hw (by intro q; unfold wb_no aQ at q; cases q)
  have K := kk p e s m args below meth c H locs ls Qe hC hR hl hf hq
  have ecl := wb_i_cl hi.1 hi.2.2
  have ecn : (wb_i i).toNatClampNeg = i.toNat := by omega
  have e2 : va_rf ((g (wb_i i).toNatClampNeg).map (wb_ad G)) = .ref (wb_ad G r) := by rw [ecn, hg]; rfl
  obtain ⟨C, hC2⟩ : ∃ C, (wb_ty G)[t]? = some (wb_gc G t, .object C) := by rcases ht with rfl | rfl <;> exact ⟨_, rfl⟩
  refine va_aldq (tys := wb_ty G) hC.1 hC.2.1 hC.2.2.2.2.2.2.2.2.1.1 (wb_one ha) 0 t rfl hC2 (wb_i_in hi.1 hi.2.1 hi.2.2) hd ?_
  (try dsimp only)
  rw [e2]
  exact K
theorem vi_aast (k : Nat) {q t n r ci : Nat} {g : Nat → Option Nat} {i : Int} {fs : List Value} (h : (wb_op M)[k]? = some (pc, .aastore, nx, tg)) (hw : w q = aQ t n g) (ht : (t = 4 ∧ ci = 0) ∨ (t = 5 ∧ ci = 2)) (hr : w r = .inr (ci, fs)) (hi : 0 ≤ i ∧ i < n ∧ i ≤ 2147483647) (kk : wb_V G M nx l st N (va_up w q (aQ t n (va_up g i.toNat (some r)))) cc cs Q) : wb_V G M pc l (.ref r :: .int (wb_i i) :: .ref q :: st) N w cc cs Q := by
  intro p e s m args below meth c H locs ls Qe hC hR hl hf hq
  obtain ⟨hd, hs⟩ := wb_opn hC.2.2.2.2.2.2.2.2.2 h
  have hnx : nx = pc + 1 := of_decide_eq_true hs
  subst hnx
  rw [Nat.add_sub_cancel_left] at hd
  obtain ⟨h3, hqN, ha⟩ := hR.at hw (by intro q; unfold wb_no aQ at q; cases q)
  obtain ⟨-, -, hav⟩ := hR.at hr (by intro q; unfold wb_no at q; cases q; rcases ht with ⟨-, h⟩ | ⟨-, h⟩ <;> cases h)
  have ecl := wb_i_cl hi.1 hi.2.2
  have ecn : (wb_i i).toNatClampNeg = i.toNat := by omega
  have hK := hC.2.2.2.2.2.2.2.2.1.1
  obtain ⟨r', hr', cellV, g1, g2, g3, -⟩ := hav
  obtain ⟨C, hc, ht2⟩ : ∃ C : vw_C, vwCl[ci]? = some C ∧ (wb_ty G)[t]? = some (wb_gc G t, .object C.1) := by
    rcases ht with ⟨rfl, rfl⟩ | ⟨rfl, rfl⟩ <;> exact ⟨_, rfl, rfl⟩
  have hcls := (hK.1 ci C hc).2
  obtain ⟨kA, comp, k1, k2, k3, -⟩ := (hK.2 t _ ht2).2
  have hcomp : comp = (wb_gD G).1 ci := Option.some.inj (k3.symm.trans hcls.1)
  subst hcomp
  obtain ⟨kC, hkC, -⟩ := hcls.2
  refine W.aast hC.1 hC.2.1 ha (fun q h => by cases h) (fun h => by cases h) k1 k2 rfl hkC ⟨by rw [show (0 : Int32) = wb_i 0 from rfl, wb_i_lt (by omega) (by omega)]; omega, by show _ < (arrV _ _ _).slots.size; rw [arrV_size, ecn]; show _ < n; omega⟩ g1 (fun q h => by rw [g3] at h; cases h) (by rw [g2]; exact hkC) (by rw [g2]; exact va_assign hcls) rfl rfl hd fun H1 e1 z oq => ?_
  refine kk p e s m args below meth c H1 _ ls Qe hC (hR.set h3 hqN z oq ?_) hl (wb_locs hf h3) hq
  show H1[wb_ad G q]? = some (vp_cell _ _)
  rw [e1]
  show some ((vp_cell (wb_gc G t) (n, .inr (.inr (.inr (.inr fun j => (g j).map (wb_ad G)))))).setSlot (wb_i i).toNatClampNeg (.ref (wb_ad G r))) = some (vp_cell (wb_gc G t) (n, .inr (.inr (.inr (.inr fun j => (va_up g i.toNat (some r) j).map (wb_ad G))))))
  rw [vp_cell_q, vp_cell_q, arrV_store]
  congr 2
  funext j
  by_cases hj : j = i.toNat
  · subst hj
    simp [updV, va_up, va_rf, ecn]
  · simp [updV, va_up, hj, ecn]
end WBARR
end
section
/-! ===== calls ===== -/
def wb_ws (M : wb_MD) : List Cond := Cond.code (wb_nm M) (wb_by M) (wb_ml M) (wb_rt M) :: wb_GW
def wb_Pc (G : wb_G) (As : List Value) (N : Nat) (w : wb_W) : Array Value → State → Prop := fun v U => v = (As.map (wb_tr G)).toArray ∧ wb_R G U U.heap N w ∧ wb_KS G U
def wb_Qc (G : wb_G) (Q : Option Value → Nat → wb_W → Prop) : Array Value → State → Outcome → State → Prop := fun _ _ o t => ∃ (v : Option Value) (N' : Nat) (w' : wb_W), o = .returned (v.map (wb_tr G)) ∧ Q v N' w' ∧ wb_R G t t.heap N' w'
def wb_ps (v : Option Value) (st : List Value) : List Value := match v with
  | some x => x :: st
  | none => st
theorem wb_args (G : wb_G) (As : List Value) : ∀ i, lv_args i (As.map (wb_tr G)) = wb_tL G (lv_args i As) := by
  induction As with
  | nil => intro i; rfl
  | cons a r ih =>
    intro i
    simp only [List.map_cons, lv_args, wb_tL, List.map_cons, wb_cat]
    rw [ih]
    rfl
theorem wb_sll (G : wb_G) (As : List Value) : (lg_sl (As.map (wb_tr G))).length = (lg_sl As).length := by
  induction As with
  | nil => rfl
  | cons a r ih =>
    unfold lg_sl at ih ⊢
    simp only [List.map_cons, List.flatMap_cons, List.length_append, wb_cat]
    rw [ih]
    split <;> rfl
theorem wb_good {M : wb_MD} (h : wb_OK M) : GoodIn wb_GW (wb_ws M) := by
  intro w hw
  have : w ∈ wb_GW := by
    rcases List.mem_cons.mp hw with rfl | hw
    · exact h.2.2.1
    · exact hw
  exact ⟨this, good_of_word (List.mem_filter.mp this).2⟩
theorem wb_met {G : wb_G} {M : wb_MD} {As : List Value} {N : Nat} {w : wb_W} {Q : Option Value → Nat → wb_W → Prop} (hOK : wb_OK M) (hlen : Nat.ble (lg_sl As).length (wb_ml M) = true) (h : wb_M G M As N w Q) :
    Met (wb_gl G) (wb_nm M) (wb_ws M) (wb_rm M) (wb_Pc G As N w) (wb_Qc G Q) (wb_rm M).cells (wb_rm M).slots (fun q => wb_gb G ≤ q) := by
  refine Met.ofW (cc := wb_by M) (maxL := wb_ml M) (ret := wb_rt M) hOK.2.2.2.2.1 rfl ?_
  intro p e s m args below meth c s₁ B hml hv
  obtain ⟨rfl, hR, hK⟩ := hv
  have hts := atoms_spec (ws := wb_ws M) B.pre
  have hslen := wb_sll G As
  have hl := lv_entry (As.map (wb_tr G)) (n := wb_ml M) (by rw [hslen]; exact Nat.le_of_ble_eq_true hlen)
  rw [wb_args] at hl
  rw [lg_entry_eq]
  generalize (lg_sl (As.map (wb_tr G)) ++ List.replicate (wb_ml M - (lg_sl (As.map (wb_tr G))).length) Slot.unset).toArray = ls at hl ⊢
  refine h p e s m _ below meth c s.heap [] ls _ ⟨B.exec, B.bytes, hml, B.returns, B.notSynchronized, (name_of_methodNamed B.named B.method).1, findClass_of_methodNamed B.named, fun w hw => hts w (List.mem_cons_of_mem _ hw), hK, ⟨hOK.1, hOK.2.1⟩⟩ hR hl (fun q hq => by cases hq) ?_
  intro v N' w' H' locs' cc' cs' pc' ls' hQ hR' hf' h1 h2 hret
  refine W.widen h1 h2 ?_
  have hlocks := B.notSynchronized
  have hend : ∀ t : State, t.heap = H' → s.WarmedH t.vm → wb_Qc G Q (As.map (wb_tr G)).toArray s (.returned (v.map (wb_tr G))) t := fun t ht hW => ⟨v, N', w', rfl, hQ, by rw [ht]; exact hR'.moved hW.alike⟩
  rcases hret with ⟨hd, x, ty, rfl, hr, hn⟩ | ⟨hd, x, rfl, hr⟩ | ⟨hd, x, n, rfl, hr⟩ | ⟨hd, rfl, hr⟩
  · exact W.zret B.exec B.bytes (B.returns.trans hr) hn hend hf' hd hlocks
  · exact W.lret B.exec B.bytes (B.returns.trans hr) hend hf' hd hlocks
  · exact W.aret B.exec B.bytes (B.returns.trans hr) (Or.inl ⟨n, rfl⟩) (Or.inr ⟨_, rfl⟩) hend hf' hd hlocks
  · exact W.vret B.exec B.bytes (B.returns.trans hr) hend hf' hd hlocks
theorem wb_blind {G : wb_G} {As : List Value} {N : Nat} {w : wb_W} : FrameBlind (wb_Pc G As N w) := by
  intro a U g mk q
  obtain ⟨h1, h2, h3, h4, h5, h6⟩ := q
  exact ⟨h1, wb_R.moved (s := U) (U := U.calling g mk a) (Vm.Alike.refl U.vm) h2, va_K.moved (u := U) (U := U.calling g mk a) (Vm.Alike.refl U.vm) h3, fun w hw => va_Nw.same (u := U) (U := U.calling g mk a) (by have := (List.mem_filter.mp hw).2; cases w <;> first | rfl | (simp [wb_isN] at this; done)) rfl (h4 w hw), va_AO.moved (u := U) (U := U.calling g mk a) (Vm.Alike.refl U.vm) h5, va_AO.moved (u := U) (U := U.calling g mk a) (Vm.Alike.refl U.vm) h6⟩
theorem wb_pre {G : wb_G} {As : List Value} {N : Nat} {w : wb_W} {s : State} {H : Heap} (hR : wb_R G s H N w) (hK : wb_KS G s) : ∀ U : State, U.heap = H → s.WarmedH U.vm → wb_Pc G As N w (As.map (wb_tr G)).toArray U :=
  fun U hU hW => ⟨rfl, by rw [hU]; exact hR.moved hW.alike, hK.moved hW⟩
/-- room of a callee in its caller's -/
def wb_rc (M M' : wb_MD) : Bool := decide ((wb_rm M').frames + 1 ≤ (wb_rm M).frames) && decide (8 + (wb_ml M' + 11) + (wb_rm M').locals ≤ (wb_rm M).locals)
def wb_np (M' : wb_MD) (n : Nat) : Prop := (parseMethodDescriptor (wb_nm M').desc).map (fun d => d.parameters.length) = some n
/-- links of calls -/
def wb_LS (o : String) (idx : Nat) (M' : wb_MD) (n : Nat) : Prop := (Cond.methodLink o idx (wb_nm M') ∈ wb_GW ∨ ∃ host, Cond.methodLinkNest o idx (wb_nm M') host ∈ wb_NW) ∧ Cond.static (wb_nm M') ∈ wb_GW ∧ wb_np M' n
def wb_LV (o : String) (idx : Nat) (M' : wb_MD) (n : Nat) : Prop := (Cond.methodLink o idx (wb_nm M') ∈ wb_GW ∨ ∃ host, Cond.methodLinkNest o idx (wb_nm M') host ∈ wb_NW) ∧ Cond.instanceMethod (wb_nm M') ∈ wb_GW ∧ Cond.selects (wb_nm M').cls (wb_nm M') (wb_nm M') ∈ wb_GW ∧ wb_np M' n
def wb_LI (o : String) (idx : Nat) (M' : wb_MD) (n : Nat) : Prop := (Cond.methodLink o idx (wb_nm M') ∈ wb_GW ∨ ∃ host, Cond.methodLinkNest o idx (wb_nm M') host ∈ wb_NW) ∧ Cond.instanceMethod (wb_nm M') ∈ wb_GW ∧ (wb_nm M').name = "<init>" ∧ wb_np M' n
section WBCALL
variable {p : Program} {e : Env} {s : State} {m : MethodId} {args : Array Value} {below : List Frame} {meth : Method} {c : Code} {H : Heap} {locs : List Loc} {Qe : State → Prop}
variable {G : wb_G} {M M' : wb_MD} {pc nx tg : Nat} {l : List (Nat × Value)} {st : List Value} {N : Nat} {w : wb_W} {cc cs : Nat} {Q : Option Value → Nat → wb_W → Prop}
/-- behind a call -/
theorem wb_back {ls : Array Slot} {st0 : List Value} {as : Array Value} (hC : wb_C G M p s m args meth c) (hl : lv_has ls (wb_ml M) (wb_tL G l)) (hf : ∀ q ∈ locs, wb_gb G ≤ q.base)
    (hq : ∀ (v : Option Value) (N' : Nat) (w' : wb_W) (H' : Heap) (locs' : List Loc) (cc' cs' pc' : Nat) (ls' : Array Slot), Q v N' w' → wb_R G s H' N' w' → (∀ q ∈ locs', wb_gb G ≤ q.base) → cc' ≤ (wb_rm M).cells → cs' ≤ (wb_rm M).slots → wb_ret M pc' v → W p (wb_gl G) e (wb_rm M) s m args below meth c H' locs' cc' cs' Qe (F0 m pc' ls' (v.toList.map (wb_tr G))))
    (hr : va_Run p (wb_gl G) e (wb_rm M) s m args below meth c H locs cc cs (wb_rm M').cells (wb_rm M').slots (F0 m pc ls st0) (st.map (wb_tr G)) (wb_Qc G (fun v N' w' => wb_V G M (pc + 3) l (wb_ps v st) N' w' (cc + (wb_rm M').cells) (cs + (wb_rm M').slots) Q) as) (fun q => wb_gb G ≤ q)) :
    W p (wb_gl G) e (wb_rm M) s m args below meth c H locs cc cs Qe (F0 m pc ls st0) := by
  intro T hT X
  obtain ⟨v, st₀, t, T', L, h0, X', hL, e1, e2, ⟨v1, N', w', hv, hV, hR'⟩, step⟩ := hr T hT X
  cases hv
  have hal : s.vm.Alike t.vm := by rw [← e2]; exact X'.warmed.alike
  have hR2 : wb_R G s T'.heap N' w' := by rw [e1]; exact hR'.moved hal.symm
  obtain ⟨t2, a1, b1⟩ := hV p e s m args below meth c T'.heap (locs ++ L) ls Qe hC hR2 hl (fun q hq => (List.mem_append.mp hq).elim (hf q) (hL q)) hq T' rfl X'
  refine ⟨t2, step t2 ?_, b1⟩
  have : (Option.map (wb_tr G) v1).toList ++ st.map (wb_tr G) = (wb_ps v1 st).map (wb_tr G) := by cases v1 <;> rfl
  rw [this]
  exact a1
theorem vi_callS (k : Nat) {idx n : Nat} (As : List Value) (hOK : wb_OK M') (h : (wb_op M)[k]? = some (pc, .invokestatic idx, nx, tg)) (hL : wb_LS (wb_nm M).cls idx M' n) (hn : As.length = n) (hlen : Nat.ble (lg_sl As).length (wb_ml M') = true) (hrc : wb_rc M M' = true) (h1 : Nat.ble (cc + (wb_rm M').cells) (wb_rm M).cells = true) (h2 : Nat.ble (cs + (wb_rm M').slots) (wb_rm M).slots = true) (h8 : Nat.ble (st.map fun v => v.category).sum 8 = true)
    (kk : wb_M G M' As N w (fun v N' w' => wb_V G M nx l (wb_ps v st) N' w' (cc + (wb_rm M').cells) (cs + (wb_rm M').slots) Q)) : wb_V G M pc l (As.reverse ++ st) N w cc cs Q := by
  intro p e s m args below meth c H locs ls Qe hC hR hl hf hq
  obtain ⟨hd, hs⟩ := wb_opn hC.2.2.2.2.2.2.2.2.2 h
  have hnx : nx = pc + 3 := of_decide_eq_true hs
  subst hnx
  rw [Nat.add_sub_cancel_left] at hd
  have hts := hC.2.2.2.2.2.2.2.1
  have hK := hC.2.2.2.2.2.2.2.2.1
  have hroom : (wb_rm M').frames + 1 ≤ (wb_rm M).frames ∧ 8 + (wb_ml M' + 11) + (wb_rm M').locals ≤ (wb_rm M).locals := ⟨of_decide_eq_true (wb_and hrc).1, of_decide_eq_true (wb_and hrc).2⟩
  have hMet := wb_met hOK hlen kk
  have hW8 : ((st.map (wb_tr G)).map fun v => v.category).sum ≤ 8 := by
    rw [List.map_map, show ((fun v : Value => v.category) ∘ wb_tr G) = (fun v => v.category) from funext (wb_cat G)]
    exact Nat.le_of_ble_eq_true h8
  have hst : (As.reverse ++ st).map (wb_tr G) = (As.map (wb_tr G)).reverse ++ st.map (wb_tr G) := by rw [List.map_append, List.map_reverse]
  have hln : (As.map (wb_tr G)).length = n := by rw [List.length_map]; exact hn
  rw [hst]
  refine wb_back (M' := M') (st := st) (as := (As.map (wb_tr G)).toArray) hC hl hf hq ?_
  rcases hL.1 with hlk | ⟨host, hlk⟩
  · exact va_runS (As := As.map (wb_tr G)) (rest := st.map (wb_tr G)) ⟨hC.1, hC.2.1, hC.2.2.1, hC.2.2.2.2.2.2.1, hts⟩ hMet ⟨callB_of n hts (wb_good hOK) rfl rfl rfl (hts _ hOK.2.2.2.1) (hts _ hlk) ⟨hOK.2.2.2.2.2.1, hOK.2.2.2.2.2.2, hL.2.2⟩ hroom, hts _ hL.2.1⟩ ⟨wb_blind, wb_pre hR hK⟩ rfl hln hl.1 rfl (lv_room hW8) hd ⟨Nat.le_of_ble_eq_true h1, Nat.le_of_ble_eq_true h2⟩
  · exact va_runSN (As := As.map (wb_tr G)) (rest := st.map (wb_tr G)) ⟨hC.1, hC.2.1, hC.2.2.1, hC.2.2.2.2.2.2.1, hts⟩ hMet ⟨va_cnB n hts (wb_good hOK) rfl rfl rfl (hK.2.1 _ hlk) (hts _ hOK.2.2.2.1) ⟨hOK.2.2.2.2.2.1, hOK.2.2.2.2.2.2, hL.2.2⟩ hroom, hts _ hL.2.1, trivial⟩ ⟨wb_blind, wb_pre hR hK⟩ rfl hln hl.1 rfl (lv_room hW8) hd ⟨Nat.le_of_ble_eq_true h1, Nat.le_of_ble_eq_true h2⟩
theorem vi_callV (k : Nat) {idx n b ci : Nat} {fs : List Value} {T : u_T} {Nf : Nat} (As : List Value) (hOK : wb_OK M') (h : (wb_op M)[k]? = some (pc, .invokevirtual idx, nx, tg)) (hL : wb_LV (wb_nm M).cls idx M' n) (hw : w b = .inr (ci, fs)) (hcl : vwCl[ci]? = some ((wb_nm M').cls, T, Nf)) (hn : As.length = n) (hlen : Nat.ble (lg_sl (.ref b :: As)).length (wb_ml M') = true) (hrc : wb_rc M M' = true) (h1 : Nat.ble (cc + (wb_rm M').cells) (wb_rm M).cells = true) (h2 : Nat.ble (cs + (wb_rm M').slots) (wb_rm M).slots = true) (h8 : Nat.ble (st.map fun v => v.category).sum 8 = true)
    (kk : wb_M G M' (.ref b :: As) N w (fun v N' w' => wb_V G M nx l (wb_ps v st) N' w' (cc + (wb_rm M').cells) (cs + (wb_rm M').slots) Q)) : wb_V G M pc l (As.reverse ++ .ref b :: st) N w cc cs Q := by
  intro p e s m args below meth c H locs ls Qe hC hR hl hf hq
  obtain ⟨hd, hs⟩ := wb_opn hC.2.2.2.2.2.2.2.2.2 h
  have hnx : nx = pc + 3 := of_decide_eq_true hs
  subst hnx
  rw [Nat.add_sub_cancel_left] at hd
  have hts := hC.2.2.2.2.2.2.2.1
  have hK := hC.2.2.2.2.2.2.2.2.1
  have hroom : (wb_rm M').frames + 1 ≤ (wb_rm M).frames ∧ 8 + (wb_ml M' + 11) + (wb_rm M').locals ≤ (wb_rm M).locals := ⟨of_decide_eq_true (wb_and hrc).1, of_decide_eq_true (wb_and hrc).2⟩
  have hMet := wb_met hOK hlen kk
  have hW8 : ((st.map (wb_tr G)).map fun v => v.category).sum ≤ 8 := by
    rw [List.map_map, show ((fun v : Value => v.category) ∘ wb_tr G) = (fun v => v.category) from funext (wb_cat G)]
    exact Nat.le_of_ble_eq_true h8
  have hst : (As.reverse ++ .ref b :: st).map (wb_tr G) = (As.map (wb_tr G)).reverse ++ .ref (wb_ad G b) :: st.map (wb_tr G) := by rw [List.map_append, List.map_reverse]; rfl
  have hln : (As.map (wb_tr G)).length = n := by rw [List.length_map]; exact hn
  have hci : Nat.blt ci 99 = true := by
    have : ci < vwCl.length := (List.getElem?_eq_some_iff.mp hcl).1
    exact Nat.ble_eq_true_of_le (by have h2 : vwCl.length = 13 := rfl; omega)
  obtain ⟨-, -, ha⟩ := hR.at hw (by intro q; unfold wb_no at q; cases q; exact absurd hci (by decide))
  have hrecv := va_recv hK.1 (wb_one ha) (ci := ci) (q0 := 0) hcl rfl
  rw [hst]
  refine wb_back (M' := M') (st := st) (as := (Value.ref (wb_ad G b) :: As.map (wb_tr G)).toArray) hC hl hf hq ?_
  rcases hL.1 with hlk | ⟨host, hlk⟩
  · exact va_runV (As := As.map (wb_tr G)) (rest := st.map (wb_tr G)) ⟨hC.1, hC.2.1, hC.2.2.1, hC.2.2.2.2.2.2.1, hts⟩ hMet ⟨callB_of n hts (wb_good hOK) rfl rfl rfl (hts _ hOK.2.2.2.1) (hts _ hlk) ⟨hOK.2.2.2.2.2.1, hOK.2.2.2.2.2.2, hL.2.2.2⟩ hroom, hts _ hL.2.1, hts _ hL.2.2.1⟩ ⟨wb_blind, hrecv, wb_pre hR hK⟩ rfl hln hl.1 rfl (lv_room hW8) hd ⟨Nat.le_of_ble_eq_true h1, Nat.le_of_ble_eq_true h2⟩
  · exact va_runVN (As := As.map (wb_tr G)) (rest := st.map (wb_tr G)) ⟨hC.1, hC.2.1, hC.2.2.1, hC.2.2.2.2.2.2.1, hts⟩ hMet ⟨va_cnB n hts (wb_good hOK) rfl rfl rfl (hK.2.1 _ hlk) (hts _ hOK.2.2.2.1) ⟨hOK.2.2.2.2.2.1, hOK.2.2.2.2.2.2, hL.2.2.2⟩ hroom, hts _ hL.2.1, hts _ hL.2.2.1⟩ ⟨wb_blind, hrecv, wb_pre hR hK⟩ rfl hln hl.1 rfl (lv_room hW8) hd ⟨Nat.le_of_ble_eq_true h1, Nat.le_of_ble_eq_true h2⟩
theorem vi_callI (k : Nat) {idx n b : Nat} (As : List Value) (hOK : wb_OK M') (hrt : wb_rt M' = none) (h : (wb_op M)[k]? = some (pc, .invokespecial idx, nx, tg)) (hL : wb_LI (wb_nm M).cls idx M' n) (hn : As.length = n) (hlen : Nat.ble (lg_sl (.ref b :: As)).length (wb_ml M') = true) (hrc : wb_rc M M' = true) (h1 : Nat.ble (cc + (wb_rm M').cells) (wb_rm M).cells = true) (h2 : Nat.ble (cs + (wb_rm M').slots) (wb_rm M).slots = true) (h8 : Nat.ble (st.map fun v => v.category).sum 8 = true)
    (kk : wb_M G M' (.ref b :: As) N w (fun v N' w' => wb_V G M nx l (wb_ps v st) N' w' (cc + (wb_rm M').cells) (cs + (wb_rm M').slots) Q)) : wb_V G M pc l (As.reverse ++ .ref b :: st) N w cc cs Q := by
  intro p e s m args below meth c H locs ls Qe hC hR hl hf hq
  obtain ⟨hd, hs⟩ := wb_opn hC.2.2.2.2.2.2.2.2.2 h
  have hnx : nx = pc + 3 := of_decide_eq_true hs
  subst hnx
  rw [Nat.add_sub_cancel_left] at hd
  have hts := hC.2.2.2.2.2.2.2.1
  have hK := hC.2.2.2.2.2.2.2.2.1
  have hroom : (wb_rm M').frames + 1 ≤ (wb_rm M).frames ∧ 8 + (wb_ml M' + 11) + (wb_rm M').locals ≤ (wb_rm M).locals := ⟨of_decide_eq_true (wb_and hrc).1, of_decide_eq_true (wb_and hrc).2⟩
  have hMet := wb_met hOK hlen kk
  have hW8 : ((st.map (wb_tr G)).map fun v => v.category).sum ≤ 8 := by
    rw [List.map_map, show ((fun v : Value => v.category) ∘ wb_tr G) = (fun v => v.category) from funext (wb_cat G)]
    exact Nat.le_of_ble_eq_true h8
  have hst : (As.reverse ++ .ref b :: st).map (wb_tr G) = (As.map (wb_tr G)).reverse ++ .ref (wb_ad G b) :: st.map (wb_tr G) := by rw [List.map_append, List.map_reverse]; rfl
  have hln : (As.map (wb_tr G)).length = n := by rw [List.length_map]; exact hn
  have hww : wb_ws M' = Cond.code (wb_nm M') (wb_by M') (wb_ml M') none :: wb_GW := by unfold wb_ws; rw [hrt]
  rw [hst]
  refine wb_back (M' := M') (st := st) (as := (Value.ref (wb_ad G b) :: As.map (wb_tr G)).toArray) hC hl hf hq ?_
  rcases hL.1 with hlk | ⟨host, hlk⟩
  · exact va_runI (As := As.map (wb_tr G)) (rest := st.map (wb_tr G)) ⟨hC.1, hC.2.1, hC.2.2.1, hC.2.2.2.2.2.2.1, hts⟩ hMet (cwI n hts (wb_good hOK) hww rfl rfl (hts _ hOK.2.2.2.1) (hts _ hlk) (hts _ hL.2.1) hL.2.2.1 ⟨hOK.2.2.2.2.2.1, hOK.2.2.2.2.2.2, hL.2.2.2⟩ hroom) ⟨wb_blind, wb_pre (As := .ref b :: As) hR hK⟩ rfl hln hl.1 rfl (lv_room hW8) hd ⟨Nat.le_of_ble_eq_true h1, Nat.le_of_ble_eq_true h2⟩
  · exact va_runIN (As := As.map (wb_tr G)) (rest := st.map (wb_tr G)) ⟨hC.1, hC.2.1, hC.2.2.1, hC.2.2.2.2.2.2.1, hts⟩ hMet ⟨va_cnB n hts (wb_good hOK) hww rfl rfl (hK.2.1 _ hlk) (hts _ hOK.2.2.2.1) ⟨hOK.2.2.2.2.2.1, hOK.2.2.2.2.2.2, hL.2.2.2⟩ hroom, hL.2.2.1, hts _ hL.2.1⟩ ⟨wb_blind, wb_pre (As := .ref b :: As) hR hK⟩ rfl hln hl.1 rfl (lv_room hW8) hd ⟨Nat.le_of_ble_eq_true h1, Nat.le_of_ble_eq_true h2⟩
/-- Object's own constructor -/
theorem vi_obj (k : Nat) {idx b : Nat} (h : (wb_op M)[k]? = some (pc, .invokespecial idx, nx, tg)) (hL : Cond.methodLink (wb_nm M).cls idx objectInit ∈ wb_GW ∧ Cond.instanceMethod objectInit ∈ wb_GW ∧ Cond.code objectInit ⟨#[0xb1]⟩ 1 none ∈ wb_GW) (hrc : Nat.ble 1 (wb_rm M).frames = true) (hlo : Nat.ble ((st.map fun v => v.category).sum + 12) (wb_rm M).locals = true) (kk : wb_V G M nx l st N w cc cs Q) : wb_V G M pc l (.ref b :: st) N w cc cs Q := by
  intro p e s m args below meth c H locs ls Qe hC hR hl hf hq
  obtain ⟨hd, hs⟩ := wb_opn hC.2.2.2.2.2.2.2.2.2 h
  have hnx : nx = pc + 3 := of_decide_eq_true hs
  subst hnx
  rw [Nat.add_sub_cancel_left] at hd
  have hts := hC.2.2.2.2.2.2.2.1
  have K := kk p e s m args below meth c H locs ls Qe hC hR hl hf hq
  have hW8 : ((st.map (wb_tr G)).map fun v => v.category).sum + 12 ≤ (wb_rm M).locals := by
    rw [List.map_map, show ((fun v : Value => v.category) ∘ wb_tr G) = (fun v => v.category) from funext (wb_cat G)]
    exact Nat.le_of_ble_eq_true hlo
  exact W.objInit hC.1 hC.2.1 hC.2.2.2.2.2.2.1 (hts _ hL.1) (hts _ hL.2.1) (hts _ hL.2.2) rfl (by rw [hC.2.2.1]; exact hl.1) rfl hd (Nat.le_of_ble_eq_true hrc) (by show 2 * 0 + _ + 12 ≤ _; omega) K

/-- System.arraycopy of a whole row: n places from 0 on -/
theorem vi_copyI (k : Nat) {idx q0 q1 n n0 n1 : Nat} {g0 g1 : Int → Int} (h : (wb_op M)[k]? = some (pc, .invokestatic idx, nx, tg)) (hL : Cond.methodLink (wb_nm M).cls idx arraycopyName ∈ wb_GW ∧ Cond.native arraycopyName ∈ wb_GW ∧ Cond.static arraycopyName ∈ wb_GW ∧ Cond.initialized "java/lang/System" ∈ wb_GW) (hw0 : w q0 = aI n0 g0) (hw1 : w q1 = aI n1 g1) (hn : n ≤ n0 ∧ n ≤ n1 ∧ n ≤ 65536) (hrc : Nat.ble 1 (wb_rm M).frames = true) (hlo : Nat.ble ((st.map fun v => v.category).sum + (nativeFrameWords "java/lang/System" "arraycopy" 5 + 11)) (wb_rm M).locals = true) (kk : wb_V G M nx l st N (va_up w q1 (aI n1 (fun j => if 0 ≤ j ∧ j < n then g0 j else g1 j))) cc cs Q) : wb_V G M pc l (.int (wb_i n) :: .int (wb_i 0) :: .ref q1 :: .int (wb_i 0) :: .ref q0 :: st) N w cc cs Q := by
  intro p e s m args below meth c H locs ls Qe hC hR hl hf hq
  obtain ⟨hd, hs⟩ := wb_opn hC.2.2.2.2.2.2.2.2.2 h
  have hnx : nx = pc + 3 := of_decide_eq_true hs
  subst hnx
  rw [Nat.add_sub_cancel_left] at hd
  have hts := hC.2.2.2.2.2.2.2.1
  have hK := hC.2.2.2.2.2.2.2.2.1.1
  have hW8 : ((st.map (wb_tr G)).map fun v => v.category).sum + (nativeFrameWords "java/lang/System" "arraycopy" 5 + 11) ≤ (wb_rm M).locals := by
    rw [List.map_map, show ((fun v : Value => v.category) ∘ wb_tr G) = (fun v => v.category) from funext (wb_cat G)]
    exact Nat.le_of_ble_eq_true hlo
  obtain ⟨-, -, hc0⟩ := hR.at hw0 (by intro q; unfold wb_no aI at q; cases q)
  obtain ⟨h3, hqN, hc1⟩ := hR.at hw1 (by intro q; unfold wb_no aI at q; cases q)
  have hcn := wb_i_cl (a := (n : Int)) (by omega) (by omega)
  have hcnn : (wb_i (n : Int)).toNatClampNeg = n := by omega
  have hc00 : (wb_i 0).toNatClampNeg = 0 := by decide
  have hlt0 : ¬ wb_i 0 < 0 := by decide
  have hltn : ¬ wb_i (n : Int) < 0 := by rw [show (0 : Int32) = wb_i 0 from rfl, wb_i_lt (by omega) (by omega)]; omega
  intro T hT X
  have hc0 : H[wb_ad G q0]? = some (vp_cell (wb_gc G 0) (n0, .inl (fun j : Nat => wb_i (g0 j)))) := hc0
  have hc1 : H[wb_ad G q1]? = some (vp_cell (wb_gc G 0) (n1, .inl (fun j : Nat => wb_i (g1 j)))) := hc1
  obtain ⟨-, k0, hk0, cm0, hkk0⟩ := (hK.2 0 _ rfl).1 n0 (fun j => .int ((fun j : Nat => wb_i (g0 j)) j))
  obtain ⟨-, k1, hk1, cm1, hkk1⟩ := (hK.2 0 _ rfl).1 n1 (fun j => .int ((fun j : Nat => wb_i (g1 j)) j))
  obtain ⟨vm', X', step⟩ := X.arraycopy hC.1 hC.2.2.2.2.2.2.1 (hts _ hL.1) (hts _ hL.2.1) (hts _ hL.2.2.1) (hts _ hL.2.2.2) (src := wb_ad G q0) (dst := wb_ad G q1) (cs := vp_cell (wb_gc G 0) (n0, .inl (fun j : Nat => wb_i (g0 j)))) (cd := vp_cell (wb_gc G 0) (n1, .inl (fun j : Nat => wb_i (g1 j)))) (srcPos := wb_i 0) (destPos := wb_i 0) (n := wb_i n) (by rw [hT]; exact hc0) (by rw [hT]; exact hc1)
    (fun _ h => by cases h) (fun _ h => by cases h) (fun h => by cases h) (fun h => by cases h) hk0 hk1 hkk0 hkk1 (by simp [refKind]) hlt0 hlt0 hltn
    (by rw [wb_i_toInt (by omega), wb_i_toInt (by omega)]; show ¬ _ > ((arrV (wb_gc G 0) n0 (fun j => .int ((fun j : Nat => wb_i (g0 j)) j))).slots.size : Int); rw [arrV_size]; omega)
    (by rw [wb_i_toInt (by omega), wb_i_toInt (by omega)]; show ¬ _ > ((arrV (wb_gc G 0) n1 (fun j => .int ((fun j : Nat => wb_i (g1 j)) j))).slots.size : Int); rw [arrV_size]; omega)
    (fun vm₁ _ i hi => by
      have e : (vp_cell (wb_gc G 0) (n0, .inl (fun j : Nat => wb_i (g0 j)))).slots.getD ((wb_i 0).toNatClampNeg + i) .null = .int ((fun j : Nat => wb_i (g0 j)) ((wb_i 0).toNatClampNeg + i)) := by
        show (arrV (wb_gc G 0) n0 (fun j => .int ((fun j : Nat => wb_i (g0 j)) j))).slots.getD _ _ = _
        rw [Array.getD_eq_getD_getElem?, arrV_read _ _ (by omega)]
        rfl
      refine ⟨?_, ?_⟩
      · rw [e]
        rfl
      · rw [e]
        exact trivial)
    (g := F0 m pc ls (.int (wb_i n) :: .int (wb_i 0) :: .ref (wb_ad G q1) :: .int (wb_i 0) :: .ref (wb_ad G q0) :: st.map (wb_tr G))) rfl (by rw [hC.2.2.1]; exact hl.1) (rest := st.map (wb_tr G)) rfl (by rw [hC.2.1]; exact hd) (Nat.le_of_ble_eq_true hrc) (by show 2 * 0 + _ + _ ≤ _; omega)
  have e1 : copied (vp_cell (wb_gc G 0) (n0, .inl (fun j : Nat => wb_i (g0 j)))) (vp_cell (wb_gc G 0) (n1, .inl (fun j : Nat => wb_i (g1 j)))) (wb_i 0) (wb_i 0) (wb_i n) = vp_cell (wb_gc G 0) (n1, .inl (va_cpy (fun j : Nat => wb_i (g0 j)) (fun j : Nat => wb_i (g1 j)) (wb_i 0).toNatClampNeg (wb_i 0).toNatClampNeg (wb_i n).toNatClampNeg)) := va_copied (fun z : Int32 => Value.int z) (wb_gc G 0) (wb_gc G 0) (fun j : Nat => wb_i (g0 j)) (fun j : Nat => wb_i (g1 j)) (by omega)
  rw [e1] at X' step
  have hl1 : wb_ad G q1 < H.size := (Array.getElem?_eq_some_iff.mp hc1).1
  have hfun : (va_cpy (fun j : Nat => wb_i (g0 j)) (fun j : Nat => wb_i (g1 j)) (wb_i 0).toNatClampNeg (wb_i 0).toNatClampNeg (wb_i n).toNatClampNeg) = (fun j : Nat => wb_i ((fun j : Int => if 0 ≤ j ∧ j < n then g0 j else g1 j) j)) := by
    funext j
    rw [hc00, hcnn]
    unfold va_cpy
    by_cases hj : j < n
    · rw [if_pos (by omega)]
      dsimp only
      rw [if_pos (by omega)]
      simp
    · rw [if_neg (by omega)]
      dsimp only
      rw [if_neg (by omega)]
  rw [hfun] at X' step
  obtain ⟨nc, hnc⟩ : ∃ nc : Cell, nc = vp_cell (wb_gc G 0) (n1, .inl (fun j : Nat => wb_i ((fun j : Int => if 0 ≤ j ∧ j < n then g0 j else g1 j) j))) := ⟨_, rfl⟩
  rw [← hnc] at X' step
  have hat : (H.setIfInBounds (wb_ad G q1) nc)[wb_ad G q1]? = some nc := by simp [Array.getElem?_setIfInBounds, hl1]
  obtain ⟨t2, a1, b1⟩ := kk p e s m args below meth c (H.setIfInBounds (wb_ad G q1) nc) _ ls Qe hC (hR.set h3 hqN (by simp) (fun q hq => by simp [Array.getElem?_setIfInBounds, Ne.symm hq]) (hnc ▸ hat)) hl (fun x hx => by
      rcases List.mem_append.mp hx with hx | hx
      · exact hf x hx
      · obtain ⟨z, -, hz⟩ := List.mem_map.mp hx
        rw [← hz]
        exact wb_adge h3) hq _ (by rw [← hT]; rfl) X'
  exact ⟨t2, step t2 a1, b1⟩
/-- System.arraycopy of a whole row: n places from 0 on -/
theorem vi_copyL (k : Nat) {idx q0 q1 n n0 n1 : Nat} {g0 g1 : Int → Int64} (h : (wb_op M)[k]? = some (pc, .invokestatic idx, nx, tg)) (hL : Cond.methodLink (wb_nm M).cls idx arraycopyName ∈ wb_GW ∧ Cond.native arraycopyName ∈ wb_GW ∧ Cond.static arraycopyName ∈ wb_GW ∧ Cond.initialized "java/lang/System" ∈ wb_GW) (hw0 : w q0 = aL n0 g0) (hw1 : w q1 = aL n1 g1) (hn : n ≤ n0 ∧ n ≤ n1 ∧ n ≤ 65536) (hrc : Nat.ble 1 (wb_rm M).frames = true) (hlo : Nat.ble ((st.map fun v => v.category).sum + (nativeFrameWords "java/lang/System" "arraycopy" 5 + 11)) (wb_rm M).locals = true) (kk : wb_V G M nx l st N (va_up w q1 (aL n1 (fun j => if 0 ≤ j ∧ j < n then g0 j else g1 j))) cc cs Q) : wb_V G M pc l (.int (wb_i n) :: .int (wb_i 0) :: .ref q1 :: .int (wb_i 0) :: .ref q0 :: st) N w cc cs Q := by
  intro p e s m args below meth c H locs ls Qe hC hR hl hf hq
  obtain ⟨hd, hs⟩ := wb_opn hC.2.2.2.2.2.2.2.2.2 h
  have hnx : nx = pc + 3 := of_decide_eq_true hs
  subst hnx
  rw [Nat.add_sub_cancel_left] at hd
  have hts := hC.2.2.2.2.2.2.2.1
  have hK := hC.2.2.2.2.2.2.2.2.1.1
  have hW8 : ((st.map (wb_tr G)).map fun v => v.category).sum + (nativeFrameWords "java/lang/System" "arraycopy" 5 + 11) ≤ (wb_rm M).locals := by
    rw [List.map_map, show ((fun v : Value => v.category) ∘ wb_tr G) = (fun v => v.category) from funext (wb_cat G)]
    exact Nat.le_of_ble_eq_true hlo
  obtain ⟨-, -, hc0⟩ := hR.at hw0 (by intro q; unfold wb_no aL at q; cases q)
  obtain ⟨h3, hqN, hc1⟩ := hR.at hw1 (by intro q; unfold wb_no aL at q; cases q)
  have hcn := wb_i_cl (a := (n : Int)) (by omega) (by omega)
  have hcnn : (wb_i (n : Int)).toNatClampNeg = n := by omega
  have hc00 : (wb_i 0).toNatClampNeg = 0 := by decide
  have hlt0 : ¬ wb_i 0 < 0 := by decide
  have hltn : ¬ wb_i (n : Int) < 0 := by rw [show (0 : Int32) = wb_i 0 from rfl, wb_i_lt (by omega) (by omega)]; omega
  intro T hT X
  have hc0 : H[wb_ad G q0]? = some (vp_cell (wb_gc G 1) (n0, .inr (.inl (fun j : Nat => g0 j)))) := hc0
  have hc1 : H[wb_ad G q1]? = some (vp_cell (wb_gc G 1) (n1, .inr (.inl (fun j : Nat => g1 j)))) := hc1
  obtain ⟨-, k0, hk0, cm0, hkk0⟩ := (hK.2 1 _ rfl).1 n0 (fun j => .long ((fun j : Nat => g0 j) j))
  obtain ⟨-, k1, hk1, cm1, hkk1⟩ := (hK.2 1 _ rfl).1 n1 (fun j => .long ((fun j : Nat => g1 j) j))
  obtain ⟨vm', X', step⟩ := X.arraycopy hC.1 hC.2.2.2.2.2.2.1 (hts _ hL.1) (hts _ hL.2.1) (hts _ hL.2.2.1) (hts _ hL.2.2.2) (src := wb_ad G q0) (dst := wb_ad G q1) (cs := vp_cell (wb_gc G 1) (n0, .inr (.inl (fun j : Nat => g0 j)))) (cd := vp_cell (wb_gc G 1) (n1, .inr (.inl (fun j : Nat => g1 j)))) (srcPos := wb_i 0) (destPos := wb_i 0) (n := wb_i n) (by rw [hT]; exact hc0) (by rw [hT]; exact hc1)
    (fun _ h => by cases h) (fun _ h => by cases h) (fun h => by cases h) (fun h => by cases h) hk0 hk1 hkk0 hkk1 (by simp [refKind]) hlt0 hlt0 hltn
    (by rw [wb_i_toInt (by omega), wb_i_toInt (by omega)]; show ¬ _ > ((arrV (wb_gc G 1) n0 (fun j => .long ((fun j : Nat => g0 j) j))).slots.size : Int); rw [arrV_size]; omega)
    (by rw [wb_i_toInt (by omega), wb_i_toInt (by omega)]; show ¬ _ > ((arrV (wb_gc G 1) n1 (fun j => .long ((fun j : Nat => g1 j) j))).slots.size : Int); rw [arrV_size]; omega)
    (fun vm₁ _ i hi => by
      have e : (vp_cell (wb_gc G 1) (n0, .inr (.inl (fun j : Nat => g0 j)))).slots.getD ((wb_i 0).toNatClampNeg + i) .null = .long ((fun j : Nat => g0 j) ((wb_i 0).toNatClampNeg + i)) := by
        show (arrV (wb_gc G 1) n0 (fun j => .long ((fun j : Nat => g0 j) j))).slots.getD _ _ = _
        rw [Array.getD_eq_getD_getElem?, arrV_read _ _ (by omega)]
        rfl
      refine ⟨?_, ?_⟩
      · rw [e]
        rfl
      · rw [e]
        exact trivial)
    (g := F0 m pc ls (.int (wb_i n) :: .int (wb_i 0) :: .ref (wb_ad G q1) :: .int (wb_i 0) :: .ref (wb_ad G q0) :: st.map (wb_tr G))) rfl (by rw [hC.2.2.1]; exact hl.1) (rest := st.map (wb_tr G)) rfl (by rw [hC.2.1]; exact hd) (Nat.le_of_ble_eq_true hrc) (by show 2 * 0 + _ + _ ≤ _; omega)
  have e1 : copied (vp_cell (wb_gc G 1) (n0, .inr (.inl (fun j : Nat => g0 j)))) (vp_cell (wb_gc G 1) (n1, .inr (.inl (fun j : Nat => g1 j)))) (wb_i 0) (wb_i 0) (wb_i n) = vp_cell (wb_gc G 1) (n1, .inr (.inl (va_cpy (fun j : Nat => g0 j) (fun j : Nat => g1 j) (wb_i 0).toNatClampNeg (wb_i 0).toNatClampNeg (wb_i n).toNatClampNeg))) := va_copied (fun z : Int64 => Value.long z) (wb_gc G 1) (wb_gc G 1) (fun j : Nat => g0 j) (fun j : Nat => g1 j) (by omega)
  rw [e1] at X' step
  have hl1 : wb_ad G q1 < H.size := (Array.getElem?_eq_some_iff.mp hc1).1
  have hfun : (va_cpy (fun j : Nat => g0 j) (fun j : Nat => g1 j) (wb_i 0).toNatClampNeg (wb_i 0).toNatClampNeg (wb_i n).toNatClampNeg) = (fun j : Nat => ((fun j : Int => if 0 ≤ j ∧ j < n then g0 j else g1 j) j)) := by
    funext j
    rw [hc00, hcnn]
    unfold va_cpy
    by_cases hj : j < n
    · rw [if_pos (by omega)]
      dsimp only
      rw [if_pos (by omega)]
      simp
    · rw [if_neg (by omega)]
      dsimp only
      rw [if_neg (by omega)]
  rw [hfun] at X' step
  obtain ⟨nc, hnc⟩ : ∃ nc : Cell, nc = vp_cell (wb_gc G 1) (n1, .inr (.inl (fun j : Nat => ((fun j : Int => if 0 ≤ j ∧ j < n then g0 j else g1 j) j)))) := ⟨_, rfl⟩
  rw [← hnc] at X' step
  have hat : (H.setIfInBounds (wb_ad G q1) nc)[wb_ad G q1]? = some nc := by simp [Array.getElem?_setIfInBounds, hl1]
  obtain ⟨t2, a1, b1⟩ := kk p e s m args below meth c (H.setIfInBounds (wb_ad G q1) nc) _ ls Qe hC (hR.set h3 hqN (by simp) (fun q hq => by simp [Array.getElem?_setIfInBounds, Ne.symm hq]) (hnc ▸ hat)) hl (fun x hx => by
      rcases List.mem_append.mp hx with hx | hx
      · exact hf x hx
      · obtain ⟨z, -, hz⟩ := List.mem_map.mp hx
        rw [← hz]
        exact wb_adge h3) hq _ (by rw [← hT]; rfl) X'
  exact ⟨t2, step t2 a1, b1⟩
end WBCALL
end
section
/-! ===== the methods as data ===== -/
def M_X0_init : wb_MD := (yX0_init, cX0_init, 2, none, { frames := 2, cells := 4, slots := 335, locals := 40 }, [(0, .aload_n 0, 1, 0), (1, .invokespecial 3, 4, 0), (4, .aload_n 0, 5, 0), (5, .bipush 72, 7, 0), (7, .newarray .int, 9, 0), (9, .putfield 9, 12, 0), (12, .aload_n 0, 13, 0), (13, .bipush 12, 15, 0), (15, .newarray .int, 17, 0), (17, .putfield 15, 20, 0), (20, .aload_n 0, 21, 0), (21, .iconst (-1), 22, 0), (22, .putfield 18, 25, 0), (25, .aload_n 0, 26, 0), (26, .iconst (-1), 27, 0), (27, .putfield 22, 30, 0), (30, .aload_n 0, 31, 0), (31, .new 25, 34, 0), (34, .dup, 35, 0), (35, .invokespecial 27, 38, 0), (38, .putfield 28, 41, 0), (41, .aload_n 0, 42, 0), (42, .iconst 1, 43, 0), (43, .putfield 32, 46, 0), (46, .iconst 0, 47, 0), (47, .istore_n 1, 48, 0), (48, .iload_n 1, 49, 0), (49, .iconst 3, 50, 0), (50, .if_icmp .ge 24, 53, 74), (53, .aload_n 0, 54, 0), (54, .getfield 15, 57, 0), (57, .iload_n 1, 58, 0), (58, .iconst 4, 59, 0), (59, .imul, 60, 0), (60, .iconst 2, 61, 0), (61, .iadd, 62, 0), (62, .getstatic 35, 65, 0), (65, .iconst 2, 66, 0), (66, .iaload, 67, 0), (67, .iastore, 68, 0), (68, .iinc 1 1, 71, 0), (71, .goto (-23), 74, 48), (74, .aload_n 0, 75, 0), (75, .getfield 28, 78, 0), (78, .invokevirtual 38, 81, 0), (81, .return_, 82, 0)])
def M_X0_copy : wb_MD := (yX0_copy, cX0_copy, 2, none, { frames := 2, cells := 0, slots := 0, locals := 47 }, [(0, .aload_n 0, 1, 0), (1, .aload_n 1, 2, 0), (2, .getfield 41, 5, 0), (5, .putfield 41, 8, 0), (8, .aload_n 1, 9, 0), (9, .getfield 9, 12, 0), (12, .iconst 0, 13, 0), (13, .aload_n 0, 14, 0), (14, .getfield 9, 17, 0), (17, .iconst 0, 18, 0), (18, .aload_n 0, 19, 0), (19, .getfield 9, 22, 0), (22, .arraylength, 23, 0), (23, .invokestatic 44, 26, 0), (26, .aload_n 1, 27, 0), (27, .getfield 15, 30, 0), (30, .iconst 0, 31, 0), (31, .aload_n 0, 32, 0), (32, .getfield 15, 35, 0), (35, .iconst 0, 36, 0), (36, .aload_n 0, 37, 0), (37, .getfield 15, 40, 0), (40, .arraylength, 41, 0), (41, .invokestatic 44, 44, 0), (44, .aload_n 0, 45, 0), (45, .aload_n 1, 46, 0), (46, .getfield 18, 49, 0), (49, .putfield 18, 52, 0), (52, .aload_n 0, 53, 0), (53, .aload_n 1, 54, 0), (54, .getfield 22, 57, 0), (57, .putfield 22, 60, 0), (60, .aload_n 0, 61, 0), (61, .aload_n 1, 62, 0), (62, .getfield 50, 65, 0), (65, .putfield 50, 68, 0), (68, .aload_n 0, 69, 0), (69, .getfield 28, 72, 0), (72, .aload_n 1, 73, 0), (73, .getfield 28, 76, 0), (76, .invokevirtual 53, 79, 0), (79, .aload_n 0, 80, 0), (80, .dup, 81, 0), (81, .getfield 32, 84, 0), (84, .iconst 1, 85, 0), (85, .iadd, 86, 0), (86, .putfield 32, 89, 0), (89, .return_, 90, 0)])
def M_X0_addMonth : wb_MD := (yX0_addMonth, cX0_addMonth, 2, (some .int), { frames := 0, cells := 0, slots := 0, locals := 0 }, [(0, .aload_n 0, 1, 0), (1, .getfield 41, 4, 0), (4, .bipush 8, 6, 0), (6, .if_icmp .lt 5, 9, 11), (9, .iconst (-1), 10, 0), (10, .ireturn, 11, 0), (11, .iconst 0, 12, 0), (12, .istore_n 1, 13, 0), (13, .iload_n 1, 14, 0), (14, .bipush 9, 16, 0), (16, .if_icmp .ge 24, 19, 40), (19, .aload_n 0, 20, 0), (20, .getfield 9, 23, 0), (23, .aload_n 0, 24, 0), (24, .getfield 41, 27, 0), (27, .bipush 9, 29, 0), (29, .imul, 30, 0), (30, .iload_n 1, 31, 0), (31, .iadd, 32, 0), (32, .iconst 0, 33, 0), (33, .iastore, 34, 0), (34, .iinc 1 1, 37, 0), (37, .goto (-24), 40, 13), (40, .aload_n 0, 41, 0), (41, .dup, 42, 0), (42, .getfield 32, 45, 0), (45, .iconst 1, 46, 0), (46, .iadd, 47, 0), (47, .putfield 32, 50, 0), (50, .aload_n 0, 51, 0), (51, .dup, 52, 0), (52, .getfield 41, 55, 0), (55, .dup_x1, 56, 0), (56, .iconst 1, 57, 0), (57, .iadd, 58, 0), (58, .putfield 41, 61, 0), (61, .ireturn, 62, 0)])
def M_X0_dropMonth : wb_MD := (yX0_dropMonth, cX0_dropMonth, 1, (some .int), { frames := 1, cells := 0, slots := 0, locals := 21 }, [(0, .aload_n 0, 1, 0), (1, .dup, 2, 0), (2, .getfield 32, 5, 0), (5, .iconst 1, 6, 0), (6, .iadd, 7, 0), (7, .putfield 32, 10, 0), (10, .aload_n 0, 11, 0), (11, .iconst 0, 12, 0), (12, .aload_n 0, 13, 0), (13, .getfield 41, 16, 0), (16, .iconst 1, 17, 0), (17, .isub, 18, 0), (18, .invokestatic 57, 21, 0), (21, .putfield 41, 24, 0), (24, .aload_n 0, 25, 0), (25, .getfield 41, 28, 0), (28, .ireturn, 29, 0)])
def M_X0_cell : wb_MD := (yX0_cell, cX0_cell, 4, (some .int), { frames := 0, cells := 0, slots := 0, locals := 0 }, [(0, .iload_n 1, 1, 0), (1, .bipush 9, 3, 0), (3, .imul, 4, 0), (4, .iload_n 2, 5, 0), (5, .iadd, 6, 0), (6, .istore_n 3, 7, 0), (7, .iload_n 3, 8, 0), (8, .ifCond .lt 21, 11, 29), (11, .iload_n 3, 12, 0), (12, .aload_n 0, 13, 0), (13, .getfield 9, 16, 0), (16, .arraylength, 17, 0), (17, .if_icmp .ge 12, 20, 29), (20, .aload_n 0, 21, 0), (21, .getfield 9, 24, 0), (24, .iload_n 3, 25, 0), (25, .iaload, 26, 0), (26, .goto 4, 29, 30), (29, .iconst 0, 30, 0), (30, .ireturn, 31, 0)])
def M_X0_setCell : wb_MD := (yX0_setCell, cX0_setCell, 5, none, { frames := 0, cells := 0, slots := 0, locals := 0 }, [(0, .iload_n 1, 1, 0), (1, .bipush 9, 3, 0), (3, .imul, 4, 0), (4, .iload_n 2, 5, 0), (5, .iadd, 6, 0), (6, .istore 4, 8, 0), (8, .iload 4, 10, 0), (10, .ifCond .lt 31, 13, 41), (13, .iload 4, 15, 0), (15, .aload_n 0, 16, 0), (16, .getfield 9, 19, 0), (19, .arraylength, 20, 0), (20, .if_icmp .ge 21, 23, 41), (23, .aload_n 0, 24, 0), (24, .getfield 9, 27, 0), (27, .iload 4, 29, 0), (29, .iload_n 3, 30, 0), (30, .iastore, 31, 0), (31, .aload_n 0, 32, 0), (32, .dup, 33, 0), (33, .getfield 32, 36, 0), (36, .iconst 1, 37, 0), (37, .iadd, 38, 0), (38, .putfield 32, 41, 0), (41, .return_, 42, 0)])
def M_X0_stockCell : wb_MD := (yX0_stockCell, cX0_stockCell, 4, (some .int), { frames := 0, cells := 0, slots := 0, locals := 0 }, [(0, .iload_n 1, 1, 0), (1, .iconst 4, 2, 0), (2, .imul, 3, 0), (3, .iload_n 2, 4, 0), (4, .iadd, 5, 0), (5, .istore_n 3, 6, 0), (6, .iload_n 3, 7, 0), (7, .ifCond .lt 21, 10, 28), (10, .iload_n 3, 11, 0), (11, .aload_n 0, 12, 0), (12, .getfield 15, 15, 0), (15, .arraylength, 16, 0), (16, .if_icmp .ge 12, 19, 28), (19, .aload_n 0, 20, 0), (20, .getfield 15, 23, 0), (23, .iload_n 3, 24, 0), (24, .iaload, 25, 0), (25, .goto 4, 28, 29), (28, .iconst 0, 29, 0), (29, .ireturn, 30, 0)])
def M_X0_setStockCell : wb_MD := (yX0_setStockCell, cX0_setStockCell, 5, none, { frames := 0, cells := 0, slots := 0, locals := 0 }, [(0, .iload_n 1, 1, 0), (1, .iconst 4, 2, 0), (2, .imul, 3, 0), (3, .iload_n 2, 4, 0), (4, .iadd, 5, 0), (5, .istore 4, 7, 0), (7, .iload 4, 9, 0), (9, .ifCond .lt 31, 12, 40), (12, .iload 4, 14, 0), (14, .aload_n 0, 15, 0), (15, .getfield 15, 18, 0), (18, .arraylength, 19, 0), (19, .if_icmp .ge 21, 22, 40), (22, .aload_n 0, 23, 0), (23, .getfield 15, 26, 0), (26, .iload 4, 28, 0), (28, .iload_n 3, 29, 0), (29, .iastore, 30, 0), (30, .aload_n 0, 31, 0), (31, .dup, 32, 0), (32, .getfield 32, 35, 0), (35, .iconst 1, 36, 0), (36, .iadd, 37, 0), (37, .putfield 32, 40, 0), (40, .return_, 41, 0)])
def M_X0_standing : wb_MD := (yX0_standing, cX0_standing, 1, (some .int), { frames := 0, cells := 0, slots := 0, locals := 0 }, [(0, .aload_n 0, 1, 0), (1, .getfield 18, 4, 0), (4, .ifCond .ge 8, 7, 12), (7, .bipush (-6), 9, 0), (9, .goto 15, 12, 24), (12, .bipush 10, 14, 0), (14, .aload_n 0, 15, 0), (15, .getfield 18, 18, 0), (18, .imul, 19, 0), (19, .aload_n 0, 20, 0), (20, .getfield 22, 23, 0), (23, .iadd, 24, 0), (24, .ireturn, 25, 0)])
def M_X0_setStanding : wb_MD := (yX0_setStanding, cX0_setStanding, 3, none, { frames := 0, cells := 0, slots := 0, locals := 0 }, [(0, .aload_n 0, 1, 0), (1, .iload_n 1, 2, 0), (2, .putfield 18, 5, 0), (5, .aload_n 0, 6, 0), (6, .iload_n 2, 7, 0), (7, .putfield 22, 10, 0), (10, .aload_n 0, 11, 0), (11, .dup, 12, 0), (12, .getfield 32, 15, 0), (15, .iconst 1, 16, 0), (16, .iadd, 17, 0), (17, .putfield 32, 20, 0), (20, .return_, 21, 0)])
def M_X0_setBoths : wb_MD := (yX0_setBoths, cX0_setBoths, 2, none, { frames := 0, cells := 0, slots := 0, locals := 0 }, [(0, .aload_n 0, 1, 0), (1, .iload_n 1, 2, 0), (2, .putfield 50, 5, 0), (5, .aload_n 0, 6, 0), (6, .dup, 7, 0), (7, .getfield 32, 10, 0), (10, .iconst 1, 11, 0), (11, .iadd, 12, 0), (12, .putfield 32, 15, 0), (15, .return_, 16, 0)])
def M_X0_standsIn : wb_MD := (yX0_standsIn, cX0_standsIn, 2, (some .boolean), { frames := 1, cells := 0, slots := 0, locals := 23 }, [(0, .aload_n 0, 1, 0), (1, .getfield 18, 4, 0), (4, .ifCond .lt 34, 7, 38), (7, .aload_n 0, 8, 0), (8, .iload_n 1, 9, 0), (9, .bipush 6, 11, 0), (11, .aload_n 0, 12, 0), (12, .getfield 18, 15, 0), (15, .iadd, 16, 0), (16, .invokevirtual 63, 19, 0), (19, .aload_n 0, 20, 0), (20, .iload_n 1, 21, 0), (21, .bipush 6, 23, 0), (23, .aload_n 0, 24, 0), (24, .getfield 22, 27, 0), (27, .iadd, 28, 0), (28, .invokevirtual 63, 31, 0), (31, .if_icmp .ge 7, 34, 38), (34, .iconst 1, 35, 0), (35, .goto 4, 38, 39), (38, .iconst 0, 39, 0), (39, .ireturn, 40, 0)])
def M_X0_guestOf : wb_MD := (yX0_guestOf, cX0_guestOf, 3, (some .int), { frames := 2, cells := 0, slots := 0, locals := 44 }, [(0, .iload_n 1, 1, 0), (1, .aload_n 0, 2, 0), (2, .getfield 18, 5, 0), (5, .if_icmp .eq 5, 8, 10), (8, .iconst (-1), 9, 0), (9, .ireturn, 10, 0), (10, .iconst 0, 11, 0), (11, .istore_n 2, 12, 0), (12, .iload_n 2, 13, 0), (13, .aload_n 0, 14, 0), (14, .getfield 41, 17, 0), (17, .if_icmp .ge 22, 20, 39), (20, .aload_n 0, 21, 0), (21, .iload_n 2, 22, 0), (22, .invokevirtual 66, 25, 0), (25, .ifCond .eq 8, 28, 33), (28, .aload_n 0, 29, 0), (29, .getfield 22, 32, 0), (32, .ireturn, 33, 0), (33, .iinc 2 1, 36, 0), (36, .goto (-24), 39, 12), (39, .iconst (-1), 40, 0), (40, .ireturn, 41, 0)])
def M_X0_ownNeed : wb_MD := (yX0_ownNeed, cX0_ownNeed, 4, (some .int), { frames := 2, cells := 0, slots := 0, locals := 45 }, [(0, .iload_n 2, 1, 0), (1, .aload_n 0, 2, 0), (2, .getfield 22, 5, 0), (5, .if_icmp .ne 15, 8, 20), (8, .aload_n 0, 9, 0), (9, .iload_n 1, 10, 0), (10, .invokevirtual 66, 13, 0), (13, .ifCond .eq 7, 16, 20), (16, .iconst 0, 17, 0), (17, .goto 9, 20, 26), (20, .aload_n 0, 21, 0), (21, .iload_n 1, 22, 0), (22, .iload_n 3, 23, 0), (23, .invokevirtual 70, 26, 0), (26, .ireturn, 27, 0)])
def M_X0_guestNeed : wb_MD := (yX0_guestNeed, cX0_guestNeed, 4, (some .int), { frames := 2, cells := 0, slots := 0, locals := 45 }, [(0, .iload_n 2, 1, 0), (1, .aload_n 0, 2, 0), (2, .getfield 18, 5, 0), (5, .if_icmp .ne 20, 8, 25), (8, .aload_n 0, 9, 0), (9, .iload_n 1, 10, 0), (10, .invokevirtual 66, 13, 0), (13, .ifCond .eq 12, 16, 25), (16, .aload_n 0, 17, 0), (17, .iload_n 1, 18, 0), (18, .iload_n 3, 19, 0), (19, .invokevirtual 70, 22, 0), (22, .goto 4, 25, 26), (25, .iconst 0, 26, 0), (26, .ireturn, 27, 0)])
def M_X0_needOfPair : wb_MD := (yX0_needOfPair, cX0_needOfPair, 3, (some .int), { frames := 1, cells := 0, slots := 0, locals := 23 }, [(0, .aload_n 0, 1, 0), (1, .iload_n 1, 2, 0), (2, .iconst 4, 3, 0), (3, .invokevirtual 63, 6, 0), (6, .iload_n 2, 7, 0), (7, .iconst 5, 8, 0), (8, .idiv, 9, 0), (9, .imul, 10, 0), (10, .aload_n 0, 11, 0), (11, .iload_n 1, 12, 0), (12, .iconst 5, 13, 0), (13, .invokevirtual 63, 16, 0), (16, .iload_n 2, 17, 0), (17, .iconst 5, 18, 0), (18, .irem, 19, 0), (19, .imul, 20, 0), (20, .iadd, 21, 0), (21, .ireturn, 22, 0)])
def M_X0_neededBy : wb_MD := (yX0_neededBy, cX0_neededBy, 4, (some .int), { frames := 3, cells := 0, slots := 0, locals := 68 }, [(0, .aload_n 0, 1, 0), (1, .iload_n 2, 2, 0), (2, .iload_n 3, 3, 0), (3, .iload_n 1, 4, 0), (4, .iload_n 3, 5, 0), (5, .invokestatic 73, 8, 0), (8, .invokevirtual 76, 11, 0), (11, .aload_n 0, 12, 0), (12, .iload_n 2, 13, 0), (13, .iload_n 3, 14, 0), (14, .iload_n 1, 15, 0), (15, .aload_n 0, 16, 0), (16, .getfield 22, 19, 0), (19, .invokestatic 73, 22, 0), (22, .invokevirtual 80, 25, 0), (25, .iadd, 26, 0), (26, .ireturn, 27, 0)])
def M_X0_priceOf : wb_MD := (yX0_priceOf, cX0_priceOf, 5, (some .int), { frames := 1, cells := 0, slots := 0, locals := 23 }, [(0, .iconst 0, 1, 0), (1, .istore_n 3, 2, 0), (2, .iconst 0, 3, 0), (3, .istore 4, 5, 0), (5, .iload 4, 7, 0), (7, .iconst 3, 8, 0), (8, .if_icmp .ge 29, 11, 37), (11, .iload_n 3, 12, 0), (12, .aload_n 0, 13, 0), (13, .iload_n 2, 14, 0), (14, .bipush 6, 16, 0), (16, .iload 4, 18, 0), (18, .iadd, 19, 0), (19, .invokevirtual 63, 22, 0), (22, .iload_n 1, 23, 0), (23, .iload 4, 25, 0), (25, .invokestatic 83, 28, 0), (28, .imul, 29, 0), (29, .iadd, 30, 0), (30, .istore_n 3, 31, 0), (31, .iinc 4 1, 34, 0), (34, .goto (-29), 37, 5), (37, .iload_n 3, 38, 0), (38, .ireturn, 39, 0)])
def M_X1_init : wb_MD := (yX1_init, cX1_init, 2, none, { frames := 2, cells := 6, slots := 931, locals := 41 }, [(0, .aload_n 0, 1, 0), (1, .invokespecial 3, 4, 0), (4, .aload_n 0, 5, 0), (5, .new 9, 8, 0), (8, .dup, 9, 0), (9, .invokespecial 11, 12, 0), (12, .putfield 12, 15, 0), (15, .aload_n 0, 16, 0), (16, .sipush 625, 19, 0), (19, .newarray .int, 21, 0), (21, .putfield 18, 24, 0), (24, .aload_n 0, 25, 0), (25, .iconst (-1), 26, 0), (26, .putfield 22, 29, 0), (29, .aload_n 0, 30, 0), (30, .iconst (-1), 31, 0), (31, .putfield 26, 34, 0), (34, .aload_n 0, 35, 0), (35, .aload_n 1, 36, 0), (36, .putfield 29, 39, 0), (39, .aload_n 0, 40, 0), (40, .new 33, 43, 0), (43, .dup, 44, 0), (44, .aload_n 1, 45, 0), (45, .getfield 35, 48, 0), (48, .invokespecial 41, 51, 0), (51, .putfield 44, 54, 0), (54, .return_, 55, 0)])
def M_X1_seek : wb_MD := (yX1_seek, cX1_seek, 3, none, { frames := 5, cells := 0, slots := 0, locals := 126 }, [(0, .aload_n 0, 1, 0), (1, .getfield 29, 4, 0), (4, .invokevirtual 48, 7, 0), (7, .aload_n 0, 8, 0), (8, .getfield 51, 11, 0), (11, .aload_n 0, 12, 0), (12, .getfield 29, 15, 0), (15, .getfield 54, 18, 0), (18, .if_icmp .ne 4, 21, 22), (21, .return_, 22, 0), (22, .aload_n 0, 23, 0), (23, .aload_n 0, 24, 0), (24, .getfield 29, 27, 0), (27, .getfield 54, 30, 0), (30, .putfield 51, 33, 0), (33, .aload_n 0, 34, 0), (34, .getfield 29, 37, 0), (37, .invokevirtual 55, 40, 0), (40, .aload_n 0, 41, 0), (41, .iconst (-1), 42, 0), (42, .putfield 26, 45, 0), (45, .iconst 1, 46, 0), (46, .istore_n 1, 47, 0), (47, .iload_n 1, 48, 0), (48, .aload_n 0, 49, 0), (49, .getfield 29, 52, 0), (52, .getfield 58, 55, 0), (55, .getfield 62, 58, 0), (58, .if_icmp .ge 71, 61, 129), (61, .aload_n 0, 62, 0), (62, .getfield 26, 65, 0), (65, .ifCond .ge 64, 68, 129), (68, .iconst 0, 69, 0), (69, .istore_n 2, 70, 0), (70, .iload_n 2, 71, 0), (71, .iconst 3, 72, 0), (72, .if_icmp .ge 51, 75, 123), (75, .aload_n 0, 76, 0), (76, .getfield 26, 79, 0), (79, .ifCond .ge 44, 82, 123), (82, .aload_n 0, 83, 0), (83, .iload_n 2, 84, 0), (84, .invokevirtual 67, 87, 0), (87, .ifCond .eq 30, 90, 117), (90, .aload_n 0, 91, 0), (91, .iload_n 1, 92, 0), (92, .iload_n 2, 93, 0), (93, .invokevirtual 71, 96, 0), (96, .ifCond .eq 21, 99, 117), (99, .aload_n 0, 100, 0), (100, .iload_n 2, 101, 0), (101, .invokevirtual 75, 104, 0), (104, .ifCond .eq 13, 107, 117), (107, .aload_n 0, 108, 0), (108, .iload_n 1, 109, 0), (109, .putfield 26, 112, 0), (112, .aload_n 0, 113, 0), (113, .iload_n 2, 114, 0), (114, .putfield 78, 117, 0), (117, .iinc 2 1, 120, 0), (120, .goto (-50), 123, 70), (123, .iinc 1 1, 126, 0), (126, .goto (-79), 129, 47), (129, .return_, 130, 0)])
def M_X1_partnerOf : wb_MD := (yX1_partnerOf, cX1_partnerOf, 3, (some .int), { frames := 2, cells := 0, slots := 0, locals := 41 }, [(0, .aload_n 0, 1, 0), (1, .getfield 29, 4, 0), (4, .getfield 81, 7, 0), (7, .ifCond .ge 5, 10, 12), (10, .iconst (-1), 11, 0), (11, .ireturn, 12, 0), (12, .aload_n 0, 13, 0), (13, .getfield 29, 16, 0), (16, .aload_n 0, 17, 0), (17, .getfield 29, 20, 0), (20, .getfield 81, 23, 0), (23, .invokevirtual 84, 26, 0), (26, .getfield 88, 29, 0), (29, .istore_n 2, 30, 0), (30, .iload_n 1, 31, 0), (31, .aload_n 0, 32, 0), (32, .getfield 29, 35, 0), (35, .getfield 81, 38, 0), (38, .if_icmp .ne 7, 41, 45), (41, .iload_n 2, 42, 0), (42, .goto 19, 45, 61), (45, .iload_n 1, 46, 0), (46, .iload_n 2, 47, 0), (47, .if_icmp .ne 13, 50, 60), (50, .aload_n 0, 51, 0), (51, .getfield 29, 54, 0), (54, .getfield 81, 57, 0), (57, .goto 4, 60, 61), (60, .iconst (-1), 61, 0), (61, .ireturn, 62, 0)])
def M_X1_hasLaters : wb_MD := (yX1_hasLaters, cX1_hasLaters, 9, (some .boolean), { frames := 4, cells := 0, slots := 0, locals := 98 }, [(0, .aload_n 0, 1, 0), (1, .getfield 44, 4, 0), (4, .iload_n 2, 5, 0), (5, .aload_n 0, 6, 0), (6, .getfield 22, 9, 0), (9, .invokevirtual 93, 12, 0), (12, .iconst 0, 13, 0), (13, .istore_n 3, 14, 0), (14, .aload_n 0, 15, 0), (15, .getfield 22, 18, 0), (18, .ifCond .ge 7, 21, 25), (21, .iconst 1, 22, 0), (22, .goto 5, 25, 27), (25, .bipush 25, 27, 0), (27, .istore 4, 29, 0), (29, .iconst 0, 30, 0), (30, .istore 5, 32, 0), (32, .iload 5, 34, 0), (34, .bipush 25, 36, 0), (36, .if_icmp .ge 91, 39, 127), (39, .aload_n 0, 40, 0), (40, .iload_n 1, 41, 0), (41, .iload_n 2, 42, 0), (42, .iload 5, 44, 0), (44, .invokevirtual 97, 47, 0), (47, .istore 6, 49, 0), (49, .iconst 0, 50, 0), (50, .istore 7, 52, 0), (52, .iload 7, 54, 0), (54, .iload 4, 56, 0), (56, .if_icmp .ge 65, 59, 121), (59, .iload 6, 61, 0), (61, .ifCond .ne 7, 64, 68), (64, .iconst 0, 65, 0), (65, .goto 15, 68, 80), (68, .aload_n 0, 69, 0), (69, .iload_n 1, 70, 0), (70, .iload_n 2, 71, 0), (71, .iload 5, 73, 0), (73, .iload 7, 75, 0), (75, .iload 6, 77, 0), (77, .invokevirtual 101, 80, 0), (80, .istore 8, 82, 0), (82, .aload_n 0, 83, 0), (83, .getfield 18, 86, 0), (86, .iload 7, 88, 0), (88, .bipush 25, 90, 0), (90, .imul, 91, 0), (91, .iload 5, 93, 0), (93, .iadd, 94, 0), (94, .iload 8, 96, 0), (96, .iastore, 97, 0), (97, .iload 8, 99, 0), (99, .ifCond .eq 16, 102, 115), (102, .aload_n 0, 103, 0), (103, .getfield 44, 106, 0), (106, .iload 5, 108, 0), (108, .iload 7, 110, 0), (110, .invokevirtual 105, 113, 0), (113, .iconst 1, 114, 0), (114, .istore_n 3, 115, 0), (115, .iinc 7 1, 118, 0), (118, .goto (-66), 121, 52), (121, .iinc 5 1, 124, 0), (124, .goto (-92), 127, 32), (127, .iload_n 3, 128, 0), (128, .ireturn, 129, 0)])
def M_X1_latersOf : wb_MD := (yX1_latersOf, cX1_latersOf, 6, (some .int), { frames := 3, cells := 0, slots := 0, locals := 72 }, [(0, .ldc 108, 2, 0), (2, .iconst 1, 3, 0), (3, .iload_n 3, 4, 0), (4, .ishl, 5, 0), (5, .iconst (-1), 6, 0), (6, .ixor, 7, 0), (7, .iand, 8, 0), (8, .istore 4, 10, 0), (10, .aload_n 0, 11, 0), (11, .getfield 29, 14, 0), (14, .iload_n 2, 15, 0), (15, .invokevirtual 84, 18, 0), (18, .astore 5, 20, 0), (20, .iload_n 2, 21, 0), (21, .aload_n 0, 22, 0), (22, .getfield 29, 25, 0), (25, .getfield 81, 28, 0), (28, .if_icmp .ne 8, 31, 36), (31, .iload 4, 33, 0), (33, .goto 20, 36, 53), (36, .aload 5, 38, 0), (38, .aload 5, 40, 0), (40, .iload_n 3, 41, 0), (41, .iload_n 1, 42, 0), (42, .invokevirtual 109, 45, 0), (45, .iload_n 1, 46, 0), (46, .iconst 0, 47, 0), (47, .iconst 1, 48, 0), (48, .iload 4, 50, 0), (50, .invokevirtual 113, 53, 0), (53, .ireturn, 54, 0)])
def M_X1_latersWith : wb_MD := (yX1_latersWith, cX1_latersWith, 7, (some .int), { frames := 3, cells := 0, slots := 0, locals := 72 }, [(0, .aload_n 0, 1, 0), (1, .getfield 22, 4, 0), (4, .ifCond .ge 6, 7, 10), (7, .iload 5, 9, 0), (9, .ireturn, 10, 0), (10, .aload_n 0, 11, 0), (11, .getfield 29, 14, 0), (14, .aload_n 0, 15, 0), (15, .getfield 29, 18, 0), (18, .getfield 81, 21, 0), (21, .invokevirtual 84, 24, 0), (24, .astore 6, 26, 0), (26, .iload_n 2, 27, 0), (27, .aload_n 0, 28, 0), (28, .getfield 29, 31, 0), (31, .getfield 81, 34, 0), (34, .if_icmp .ne 31, 37, 65), (37, .aload 6, 39, 0), (39, .aload 6, 41, 0), (41, .iload_n 3, 42, 0), (42, .bipush 25, 44, 0), (44, .iload 4, 46, 0), (46, .imul, 47, 0), (47, .iadd, 48, 0), (48, .iload_n 1, 49, 0), (49, .invokevirtual 109, 52, 0), (52, .iload_n 1, 53, 0), (53, .bipush 25, 55, 0), (55, .iload 4, 57, 0), (57, .imul, 58, 0), (58, .iconst 1, 59, 0), (59, .iload 5, 61, 0), (61, .invokevirtual 113, 64, 0), (64, .ireturn, 65, 0), (65, .aload 6, 67, 0), (67, .aload 6, 69, 0), (69, .iload 4, 71, 0), (71, .bipush 25, 73, 0), (73, .iload_n 3, 74, 0), (74, .imul, 75, 0), (75, .iadd, 76, 0), (76, .iload_n 1, 77, 0), (77, .invokevirtual 109, 80, 0), (80, .iload_n 1, 81, 0), (81, .iload 4, 83, 0), (83, .bipush 25, 85, 0), (85, .iload 5, 87, 0), (87, .invokevirtual 113, 90, 0), (90, .ireturn, 91, 0)])
def M_X1_hasStarts : wb_MD := (yX1_hasStarts, cX1_hasStarts, 3, (some .boolean), { frames := 4, cells := 0, slots := 0, locals := 90 }, [(0, .aload_n 0, 1, 0), (1, .aload_n 0, 2, 0), (2, .iload_n 1, 3, 0), (3, .invokevirtual 116, 6, 0), (6, .putfield 22, 9, 0), (9, .iconst 1, 10, 0), (10, .iload_n 1, 11, 0), (11, .ishl, 12, 0), (12, .istore_n 2, 13, 0), (13, .aload_n 0, 14, 0), (14, .getfield 22, 17, 0), (17, .ifCond .lt 26, 20, 43), (20, .aload_n 0, 21, 0), (21, .getfield 22, 24, 0), (24, .aload_n 0, 25, 0), (25, .getfield 29, 28, 0), (28, .getfield 81, 31, 0), (31, .if_icmp .ne 12, 34, 43), (34, .iload_n 2, 35, 0), (35, .iconst 1, 36, 0), (36, .aload_n 0, 37, 0), (37, .getfield 22, 40, 0), (40, .ishl, 41, 0), (41, .ior, 42, 0), (42, .istore_n 2, 43, 0), (43, .aload_n 0, 44, 0), (44, .getfield 29, 47, 0), (47, .aload_n 0, 48, 0), (48, .getfield 12, 51, 0), (51, .iload_n 2, 52, 0), (52, .invokevirtual 120, 55, 0), (55, .aload_n 0, 56, 0), (56, .getfield 12, 59, 0), (59, .iconst 0, 60, 0), (60, .invokevirtual 124, 63, 0), (63, .ifCond .lt 7, 66, 70), (66, .iconst 1, 67, 0), (67, .goto 4, 70, 71), (70, .iconst 0, 71, 0), (71, .ireturn, 72, 0)])
def M_X1_isFound : wb_MD := (yX1_isFound, cX1_isFound, 4, (some .boolean), { frames := 4, cells := 0, slots := 0, locals := 91 }, [(0, .aload_n 0, 1, 0), (1, .getfield 44, 4, 0), (4, .aload_n 0, 5, 0), (5, .getfield 12, 8, 0), (8, .invokevirtual 127, 11, 0), (11, .aload_n 0, 12, 0), (12, .getfield 12, 15, 0), (15, .iconst 0, 16, 0), (16, .invokevirtual 124, 19, 0), (19, .istore_n 2, 20, 0), (20, .iconst 0, 21, 0), (21, .istore_n 3, 22, 0), (22, .iload_n 3, 23, 0), (23, .sipush 15625, 26, 0), (26, .if_icmp .ge 35, 29, 61), (29, .iload_n 2, 30, 0), (30, .ifCond .lt 31, 33, 61), (33, .aload_n 0, 34, 0), (34, .iload_n 2, 35, 0), (35, .iload_n 1, 36, 0), (36, .invokevirtual 131, 39, 0), (39, .ifCond .eq 5, 42, 44), (42, .iconst 1, 43, 0), (43, .ireturn, 44, 0), (44, .aload_n 0, 45, 0), (45, .getfield 12, 48, 0), (48, .iload_n 2, 49, 0), (49, .iconst 1, 50, 0), (50, .iadd, 51, 0), (51, .invokevirtual 124, 54, 0), (54, .istore_n 2, 55, 0), (55, .iinc 3 1, 58, 0), (58, .goto (-36), 61, 22), (61, .iconst 0, 62, 0), (62, .ireturn, 63, 0)])
def M_X1_isFoundFrom : wb_MD := (yX1_isFoundFrom, cX1_isFoundFrom, 6, (some .boolean), { frames := 3, cells := 0, slots := 0, locals := 66 }, [(0, .aload_n 0, 1, 0), (1, .getfield 22, 4, 0), (4, .ifCond .ge 7, 7, 11), (7, .iconst 0, 8, 0), (8, .goto 11, 11, 19), (11, .iload_n 1, 12, 0), (12, .aload_n 0, 13, 0), (13, .getfield 22, 16, 0), (16, .invokestatic 134, 19, 0), (19, .istore_n 3, 20, 0), (20, .aload_n 0, 21, 0), (21, .getfield 18, 24, 0), (24, .iload_n 3, 25, 0), (25, .bipush 25, 27, 0), (27, .imul, 28, 0), (28, .iload_n 1, 29, 0), (29, .iload_n 2, 30, 0), (30, .invokestatic 134, 33, 0), (33, .iadd, 34, 0), (34, .iaload, 35, 0), (35, .istore 4, 37, 0), (37, .iconst 0, 38, 0), (38, .istore 5, 40, 0), (40, .iload 5, 42, 0), (42, .bipush 25, 44, 0), (44, .if_icmp .ge 60, 47, 104), (47, .iload 4, 49, 0), (49, .iload 5, 51, 0), (51, .ishr, 52, 0), (52, .iconst 1, 53, 0), (53, .iand, 54, 0), (54, .ifCond .eq 44, 57, 98), (57, .aload_n 0, 58, 0), (58, .getfield 29, 61, 0), (61, .getfield 58, 64, 0), (64, .getfield 137, 67, 0), (67, .iload_n 1, 68, 0), (68, .iload_n 2, 69, 0), (69, .iload 5, 71, 0), (71, .invokestatic 140, 74, 0), (74, .invokevirtual 143, 77, 0), (77, .ifCond .eq 21, 80, 98), (80, .aload_n 0, 81, 0), (81, .iload_n 1, 82, 0), (82, .putfield 146, 85, 0), (85, .aload_n 0, 86, 0), (86, .iload_n 1, 87, 0), (87, .iload_n 2, 88, 0), (88, .iload 5, 90, 0), (90, .invokestatic 140, 93, 0), (93, .putfield 149, 96, 0), (96, .iconst 1, 97, 0), (97, .ireturn, 98, 0), (98, .iinc 5 1, 101, 0), (101, .goto (-61), 104, 40), (104, .iconst 0, 105, 0), (105, .ireturn, 106, 0)])
def M_X2_init : wb_MD := (yX2_init, cX2_init, 3, none, { frames := 2, cells := 8, slots := 18105, locals := 41 }, [(0, .aload_n 0, 1, 0), (1, .invokespecial 3, 4, 0), (4, .aload_n 0, 5, 0), (5, .bipush 25, 7, 0), (7, .newarray .int, 9, 0), (9, .putfield 9, 12, 0), (12, .aload_n 0, 13, 0), (13, .bipush 25, 15, 0), (15, .newarray .int, 17, 0), (17, .putfield 15, 20, 0), (20, .aload_n 0, 21, 0), (21, .iconst (-1), 22, 0), (22, .putfield 18, 25, 0), (25, .aload_n 0, 26, 0), (26, .iload_n 2, 27, 0), (27, .putfield 22, 30, 0), (30, .aload_n 0, 31, 0), (31, .iload_n 2, 32, 0), (32, .bipush 8, 34, 0), (34, .imul, 35, 0), (35, .newarray .int, 37, 0), (37, .putfield 25, 40, 0), (40, .aload_n 0, 41, 0), (41, .iload_n 2, 42, 0), (42, .bipush 9, 44, 0), (44, .imul, 45, 0), (45, .newarray .int, 47, 0), (47, .putfield 28, 50, 0), (50, .aload_n 0, 51, 0), (51, .iload_n 2, 52, 0), (52, .bipush 9, 54, 0), (54, .imul, 55, 0), (55, .newarray .int, 57, 0), (57, .putfield 31, 60, 0), (60, .aload_n 0, 61, 0), (61, .new 34, 64, 0), (64, .dup, 65, 0), (65, .aload_n 1, 66, 0), (66, .invokespecial 36, 69, 0), (69, .putfield 39, 72, 0), (72, .return_, 73, 0)])
def M_X2_set : wb_MD := (yX2_set, cX2_set, 5, none, { frames := 4, cells := 0, slots := 0, locals := 93 }, [(0, .aload_n 0, 1, 0), (1, .iload_n 2, 2, 0), (2, .putfield 43, 5, 0), (5, .aload_n 0, 6, 0), (6, .iload_n 3, 7, 0), (7, .putfield 18, 10, 0), (10, .aload_n 0, 11, 0), (11, .aload_n 0, 12, 0), (12, .getfield 22, 15, 0), (15, .aload_n 0, 16, 0), (16, .getfield 18, 19, 0), (19, .ifCond .ge 8, 22, 27), (22, .bipush 25, 24, 0), (24, .goto 6, 27, 30), (27, .sipush 625, 30, 0), (30, .invokestatic 46, 33, 0), (33, .putfield 52, 36, 0), (36, .iconst 0, 37, 0), (37, .istore 4, 39, 0), (39, .iload 4, 41, 0), (41, .aload_n 1, 42, 0), (42, .getfield 55, 45, 0), (45, .if_icmp .ge 23, 48, 68), (48, .iload 4, 50, 0), (50, .bipush 8, 52, 0), (52, .if_icmp .ge 16, 55, 68), (55, .aload_n 0, 56, 0), (56, .aload_n 1, 57, 0), (57, .iload 4, 59, 0), (59, .invokevirtual 60, 62, 0), (62, .iinc 4 1, 65, 0), (65, .goto (-26), 68, 39), (68, .return_, 69, 0)])
def M_X2_setNeeds : wb_MD := (yX2_setNeeds, cX2_setNeeds, 6, none, { frames := 3, cells := 0, slots := 0, locals := 68 }, [(0, .iconst 0, 1, 0), (1, .istore_n 3, 2, 0), (2, .iload_n 3, 3, 0), (3, .bipush 25, 5, 0), (5, .if_icmp .ge 41, 8, 46), (8, .aload_n 0, 9, 0), (9, .getfield 9, 12, 0), (12, .iload_n 3, 13, 0), (13, .aload_n 1, 14, 0), (14, .iload_n 2, 15, 0), (15, .aload_n 0, 16, 0), (16, .getfield 43, 19, 0), (19, .iload_n 3, 20, 0), (20, .invokevirtual 64, 23, 0), (23, .iastore, 24, 0), (24, .aload_n 0, 25, 0), (25, .getfield 15, 28, 0), (28, .iload_n 3, 29, 0), (29, .aload_n 1, 30, 0), (30, .iload_n 2, 31, 0), (31, .aload_n 0, 32, 0), (32, .getfield 43, 35, 0), (35, .iload_n 3, 36, 0), (36, .invokevirtual 68, 39, 0), (39, .iastore, 40, 0), (40, .iinc 3 1, 43, 0), (43, .goto (-41), 46, 2), (46, .iconst 0, 47, 0), (47, .istore_n 3, 48, 0), (48, .iload_n 3, 49, 0), (49, .bipush 25, 51, 0), (51, .imul, 52, 0), (52, .aload_n 0, 53, 0), (53, .getfield 52, 56, 0), (56, .if_icmp .ge 60, 59, 116), (59, .iconst 0, 60, 0), (60, .istore 4, 62, 0), (62, .iload 4, 64, 0), (64, .bipush 25, 66, 0), (66, .if_icmp .ge 44, 69, 110), (69, .iload_n 3, 70, 0), (70, .bipush 25, 72, 0), (72, .imul, 73, 0), (73, .iload 4, 75, 0), (75, .iadd, 76, 0), (76, .istore 5, 78, 0), (78, .aload_n 0, 79, 0), (79, .getfield 25, 82, 0), (82, .iload 5, 84, 0), (84, .bipush 8, 86, 0), (86, .imul, 87, 0), (87, .iload_n 2, 88, 0), (88, .iadd, 89, 0), (89, .aload_n 0, 90, 0), (90, .getfield 9, 93, 0), (93, .iload 4, 95, 0), (95, .iaload, 96, 0), (96, .aload_n 0, 97, 0), (97, .getfield 15, 100, 0), (100, .iload_n 3, 101, 0), (101, .iaload, 102, 0), (102, .iadd, 103, 0), (103, .iastore, 104, 0), (104, .iinc 4 1, 107, 0), (107, .goto (-45), 110, 62), (110, .iinc 3 1, 113, 0), (113, .goto (-65), 116, 48), (116, .return_, 117, 0)])
def M_X2_strain : wb_MD := (yX2_strain, cX2_strain, 3, none, { frames := 2, cells := 0, slots := 0, locals := 50 }, [(0, .aload_n 0, 1, 0), (1, .getfield 39, 4, 0), (4, .aload_n 0, 5, 0), (5, .getfield 43, 8, 0), (8, .aload_n 0, 9, 0), (9, .getfield 18, 12, 0), (12, .invokevirtual 71, 15, 0), (15, .iconst 0, 16, 0), (16, .istore_n 2, 17, 0), (17, .iload_n 2, 18, 0), (18, .aload_n 0, 19, 0), (19, .getfield 52, 22, 0), (22, .if_icmp .ge 33, 25, 55), (25, .aload_n 0, 26, 0), (26, .aload_n 1, 27, 0), (27, .iload_n 2, 28, 0), (28, .invokevirtual 75, 31, 0), (31, .ifCond .eq 18, 34, 49), (34, .aload_n 0, 35, 0), (35, .getfield 39, 38, 0), (38, .iload_n 2, 39, 0), (39, .bipush 25, 41, 0), (41, .irem, 42, 0), (42, .iload_n 2, 43, 0), (43, .bipush 25, 45, 0), (45, .idiv, 46, 0), (46, .invokevirtual 79, 49, 0), (49, .iinc 2 1, 52, 0), (52, .goto (-35), 55, 17), (55, .return_, 56, 0)])
def M_X2_goesThrough : wb_MD := (yX2_goesThrough, cX2_goesThrough, 4, (some .boolean), { frames := 1, cells := 0, slots := 0, locals := 24 }, [(0, .aload_n 1, 1, 0), (1, .invokevirtual 82, 4, 0), (4, .iconst 0, 5, 0), (5, .istore_n 3, 6, 0), (6, .iload_n 3, 7, 0), (7, .aload_n 1, 8, 0), (8, .getfield 87, 11, 0), (11, .if_icmp .ge 36, 14, 47), (14, .iload_n 3, 15, 0), (15, .bipush 8, 17, 0), (17, .if_icmp .ge 30, 20, 47), (20, .aload_n 1, 21, 0), (21, .iload_n 3, 22, 0), (22, .aload_n 0, 23, 0), (23, .getfield 25, 26, 0), (26, .iload_n 2, 27, 0), (27, .bipush 8, 29, 0), (29, .imul, 30, 0), (30, .iload_n 3, 31, 0), (31, .iadd, 32, 0), (32, .iaload, 33, 0), (33, .invokevirtual 88, 36, 0), (36, .ifCond .ne 5, 39, 41), (39, .iconst 0, 40, 0), (40, .ireturn, 41, 0), (41, .iinc 3 1, 44, 0), (44, .goto (-38), 47, 6), (47, .iconst 1, 48, 0), (48, .ireturn, 49, 0)])
def M_X2_chart : wb_MD := (yX2_chart, cX2_chart, 3, none, { frames := 2, cells := 0, slots := 0, locals := 48 }, [(0, .iconst 0, 1, 0), (1, .istore_n 2, 2, 0), (2, .iload_n 2, 3, 0), (3, .aload_n 0, 4, 0), (4, .getfield 52, 7, 0), (7, .if_icmp .ge 21, 10, 28), (10, .aload_n 0, 11, 0), (11, .aload_n 1, 12, 0), (12, .iload_n 2, 13, 0), (13, .invokevirtual 92, 16, 0), (16, .aload_n 0, 17, 0), (17, .aload_n 1, 18, 0), (18, .iload_n 2, 19, 0), (19, .invokevirtual 96, 22, 0), (22, .iinc 2 1, 25, 0), (25, .goto (-23), 28, 2), (28, .return_, 29, 0)])
def M_X2_chartAhead : wb_MD := (yX2_chartAhead, cX2_chartAhead, 5, none, { frames := 1, cells := 0, slots := 0, locals := 24 }, [(0, .aload_n 1, 1, 0), (1, .invokevirtual 82, 4, 0), (4, .iconst 1, 5, 0), (5, .istore_n 3, 6, 0), (6, .aload_n 0, 7, 0), (7, .getfield 28, 10, 0), (10, .iload_n 2, 11, 0), (11, .bipush 9, 13, 0), (13, .imul, 14, 0), (14, .aload_n 1, 15, 0), (15, .getfield 99, 18, 0), (18, .aload_n 1, 19, 0), (19, .getfield 102, 22, 0), (22, .invokestatic 105, 25, 0), (25, .iastore, 26, 0), (26, .iconst 0, 27, 0), (27, .istore 4, 29, 0), (29, .iload 4, 31, 0), (31, .aload_n 1, 32, 0), (32, .getfield 87, 35, 0), (35, .if_icmp .ge 80, 38, 115), (38, .iload 4, 40, 0), (40, .bipush 8, 42, 0), (42, .if_icmp .ge 73, 45, 115), (45, .iload_n 3, 46, 0), (46, .ifCond .eq 28, 49, 74), (49, .aload_n 1, 50, 0), (50, .iload 4, 52, 0), (52, .aload_n 0, 53, 0), (53, .getfield 25, 56, 0), (56, .iload_n 2, 57, 0), (57, .bipush 8, 59, 0), (59, .imul, 60, 0), (60, .iload 4, 62, 0), (62, .iadd, 63, 0), (63, .iaload, 64, 0), (64, .invokevirtual 88, 67, 0), (67, .ifCond .eq 7, 70, 74), (70, .iconst 1, 71, 0), (71, .goto 4, 74, 75), (74, .iconst 0, 75, 0), (75, .istore_n 3, 76, 0), (76, .aload_n 0, 77, 0), (77, .getfield 28, 80, 0), (80, .iload_n 2, 81, 0), (81, .bipush 9, 83, 0), (83, .imul, 84, 0), (84, .iload 4, 86, 0), (86, .iadd, 87, 0), (87, .iconst 1, 88, 0), (88, .iadd, 89, 0), (89, .iload_n 3, 90, 0), (90, .ifCond .eq 17, 93, 107), (93, .aload_n 1, 94, 0), (94, .getfield 99, 97, 0), (97, .aload_n 1, 98, 0), (98, .getfield 102, 101, 0), (101, .invokestatic 105, 104, 0), (104, .goto 4, 107, 108), (107, .iconst (-1), 108, 0), (108, .iastore, 109, 0), (109, .iinc 4 1, 112, 0), (112, .goto (-83), 115, 29), (115, .return_, 116, 0)])
def M_X2_chartOnward : wb_MD := (yX2_chartOnward, cX2_chartOnward, 5, none, { frames := 1, cells := 0, slots := 0, locals := 24 }, [(0, .aload_n 1, 1, 0), (1, .invokevirtual 108, 4, 0), (4, .iconst 1, 5, 0), (5, .istore_n 3, 6, 0), (6, .aload_n 0, 7, 0), (7, .getfield 31, 10, 0), (10, .iload_n 2, 11, 0), (11, .bipush 9, 13, 0), (13, .imul, 14, 0), (14, .aload_n 1, 15, 0), (15, .getfield 87, 18, 0), (18, .iadd, 19, 0), (19, .aload_n 1, 20, 0), (20, .getfield 99, 23, 0), (23, .aload_n 1, 24, 0), (24, .getfield 102, 27, 0), (27, .invokestatic 105, 30, 0), (30, .iastore, 31, 0), (31, .aload_n 1, 32, 0), (32, .getfield 87, 35, 0), (35, .iconst 1, 36, 0), (36, .isub, 37, 0), (37, .istore 4, 39, 0), (39, .iload 4, 41, 0), (41, .ifCond .le 71, 44, 112), (44, .iload_n 3, 45, 0), (45, .ifCond .eq 28, 48, 73), (48, .aload_n 1, 49, 0), (49, .iload 4, 51, 0), (51, .aload_n 0, 52, 0), (52, .getfield 25, 55, 0), (55, .iload_n 2, 56, 0), (56, .bipush 8, 58, 0), (58, .imul, 59, 0), (59, .iload 4, 61, 0), (61, .iadd, 62, 0), (62, .iaload, 63, 0), (63, .invokevirtual 111, 66, 0), (66, .ifCond .eq 7, 69, 73), (69, .iconst 1, 70, 0), (70, .goto 4, 73, 74), (73, .iconst 0, 74, 0), (74, .istore_n 3, 75, 0), (75, .aload_n 0, 76, 0), (76, .getfield 31, 79, 0), (79, .iload_n 2, 80, 0), (80, .bipush 9, 82, 0), (82, .imul, 83, 0), (83, .iload 4, 85, 0), (85, .iadd, 86, 0), (86, .iload_n 3, 87, 0), (87, .ifCond .eq 17, 90, 104), (90, .aload_n 1, 91, 0), (91, .getfield 99, 94, 0), (94, .aload_n 1, 95, 0), (95, .getfield 102, 98, 0), (98, .invokestatic 105, 101, 0), (101, .goto 4, 104, 105), (104, .iconst (-1), 105, 0), (105, .iastore, 106, 0), (106, .iinc 4 (-1), 109, 0), (109, .goto (-70), 112, 39), (112, .return_, 113, 0)])
def M_X2_needAt : wb_MD := (yX2_needAt, cX2_needAt, 3, (some .int), { frames := 1, cells := 0, slots := 0, locals := 22 }, [(0, .aload_n 0, 1, 0), (1, .iload_n 1, 2, 0), (2, .iload_n 2, 3, 0), (3, .invokevirtual 114, 6, 0), (6, .ifCond .eq 17, 9, 23), (9, .aload_n 0, 10, 0), (10, .getfield 25, 13, 0), (13, .iload_n 1, 14, 0), (14, .bipush 8, 16, 0), (16, .imul, 17, 0), (17, .iload_n 2, 18, 0), (18, .iadd, 19, 0), (19, .iaload, 20, 0), (20, .goto 4, 23, 24), (23, .iconst 0, 24, 0), (24, .ireturn, 25, 0)])
def M_X2_aheadOf : wb_MD := (yX2_aheadOf, cX2_aheadOf, 3, (some .int), { frames := 1, cells := 0, slots := 0, locals := 22 }, [(0, .aload_n 0, 1, 0), (1, .iload_n 1, 2, 0), (2, .iload_n 2, 3, 0), (3, .invokevirtual 114, 6, 0), (6, .ifCond .eq 17, 9, 23), (9, .aload_n 0, 10, 0), (10, .getfield 28, 13, 0), (13, .iload_n 1, 14, 0), (14, .bipush 9, 16, 0), (16, .imul, 17, 0), (17, .iload_n 2, 18, 0), (18, .iadd, 19, 0), (19, .iaload, 20, 0), (20, .goto 4, 23, 24), (23, .iconst (-1), 24, 0), (24, .ireturn, 25, 0)])
def M_X2_onwardFrom : wb_MD := (yX2_onwardFrom, cX2_onwardFrom, 3, (some .int), { frames := 1, cells := 0, slots := 0, locals := 22 }, [(0, .aload_n 0, 1, 0), (1, .iload_n 1, 2, 0), (2, .iload_n 2, 3, 0), (3, .iconst 1, 4, 0), (4, .isub, 5, 0), (5, .invokevirtual 114, 8, 0), (8, .ifCond .eq 17, 11, 25), (11, .aload_n 0, 12, 0), (12, .getfield 31, 15, 0), (15, .iload_n 1, 16, 0), (16, .bipush 9, 18, 0), (18, .imul, 19, 0), (19, .iload_n 2, 20, 0), (20, .iadd, 21, 0), (21, .iaload, 22, 0), (22, .goto 4, 25, 26), (25, .iconst (-1), 26, 0), (26, .ireturn, 27, 0)])
def M_X2_isPlace : wb_MD := (yX2_isPlace, cX2_isPlace, 3, (some .boolean), { frames := 0, cells := 0, slots := 0, locals := 0 }, [(0, .iload_n 1, 1, 0), (1, .ifCond .lt 25, 4, 26), (4, .iload_n 1, 5, 0), (5, .aload_n 0, 6, 0), (6, .getfield 52, 9, 0), (9, .if_icmp .ge 17, 12, 26), (12, .iload_n 2, 13, 0), (13, .ifCond .lt 13, 16, 26), (16, .iload_n 2, 17, 0), (17, .bipush 8, 19, 0), (19, .if_icmp .ge 7, 22, 26), (22, .iconst 1, 23, 0), (23, .goto 4, 26, 27), (26, .iconst 0, 27, 0), (27, .ireturn, 28, 0)])
def M_X2_onwardPairs : wb_MD := (yX2_onwardPairs, cX2_onwardPairs, 9, (some .int), { frames := 2, cells := 0, slots := 0, locals := 44 }, [(0, .iconst 0, 1, 0), (1, .istore 6, 3, 0), (3, .iconst 0, 4, 0), (4, .istore 7, 6, 0), (6, .iload 7, 8, 0), (8, .bipush 25, 10, 0), (10, .if_icmp .ge 79, 13, 89), (13, .iload_n 1, 14, 0), (14, .ifCond .lt 75, 17, 89), (17, .iload 5, 19, 0), (19, .iload 7, 21, 0), (21, .ishr, 22, 0), (22, .iconst 1, 23, 0), (23, .iand, 24, 0), (24, .ifCond .eq 18, 27, 42), (27, .aload_n 0, 28, 0), (28, .iload_n 3, 29, 0), (29, .iload 4, 31, 0), (31, .iload 7, 33, 0), (33, .imul, 34, 0), (34, .iadd, 35, 0), (35, .iload_n 2, 36, 0), (36, .invokevirtual 117, 39, 0), (39, .goto 4, 42, 43), (42, .iconst (-1), 43, 0), (43, .istore 8, 45, 0), (45, .iload 8, 47, 0), (47, .ifCond .lt 36, 50, 83), (50, .iload_n 1, 51, 0), (51, .invokestatic 120, 54, 0), (54, .iload 8, 56, 0), (56, .invokestatic 124, 59, 0), (59, .if_icmp .gt 24, 62, 83), (62, .iload 8, 64, 0), (64, .invokestatic 120, 67, 0), (67, .iload_n 1, 68, 0), (68, .invokestatic 124, 71, 0), (71, .if_icmp .gt 12, 74, 83), (74, .iload 6, 76, 0), (76, .iconst 1, 77, 0), (77, .iload 7, 79, 0), (79, .ishl, 80, 0), (80, .ior, 81, 0), (81, .istore 6, 83, 0), (83, .iinc 7 1, 86, 0), (86, .goto (-80), 89, 6), (89, .iload 6, 91, 0), (91, .ireturn, 92, 0)])
def M_X3_init : wb_MD := (yX3_init, cX3_init, 1, none, { frames := 1, cells := 2, slots := 16, locals := 20 }, [(0, .aload_n 0, 1, 0), (1, .invokespecial 3, 4, 0), (4, .aload_n 0, 5, 0), (5, .bipush 8, 7, 0), (7, .newarray .int, 9, 0), (9, .putfield 9, 12, 0), (12, .aload_n 0, 13, 0), (13, .bipush 8, 15, 0), (15, .newarray .int, 17, 0), (17, .putfield 15, 20, 0), (20, .return_, 21, 0)])
def M_X3_set : wb_MD := (yX3_set, cX3_set, 9, none, { frames := 1, cells := 0, slots := 0, locals := 23 }, [(0, .aload_n 0, 1, 0), (1, .bipush 8, 3, 0), (3, .aload_n 1, 4, 0), (4, .getfield 18, 7, 0), (7, .invokestatic 24, 10, 0), (10, .putfield 30, 13, 0), (13, .iconst 0, 14, 0), (14, .istore 5, 16, 0), (16, .iload 5, 18, 0), (18, .aload_n 0, 19, 0), (19, .getfield 30, 22, 0), (22, .if_icmp .ge 93, 25, 115), (25, .iload 4, 27, 0), (27, .iload 5, 29, 0), (29, .ishr, 30, 0), (30, .iconst 1, 31, 0), (31, .iand, 32, 0), (32, .ifCond .eq 7, 35, 39), (35, .iconst 1, 36, 0), (36, .goto 4, 39, 40), (39, .iconst 0, 40, 0), (40, .istore 6, 42, 0), (42, .aload_n 1, 43, 0), (43, .iload 5, 45, 0), (45, .iload_n 2, 46, 0), (46, .invokevirtual 31, 49, 0), (49, .istore 7, 51, 0), (51, .aload_n 1, 52, 0), (52, .iload 5, 54, 0), (54, .iconst 3, 55, 0), (55, .invokevirtual 31, 58, 0), (58, .iload_n 3, 59, 0), (59, .iadd, 60, 0), (60, .istore 8, 62, 0), (62, .aload_n 0, 63, 0), (63, .getfield 9, 66, 0), (66, .iload 5, 68, 0), (68, .iload 6, 70, 0), (70, .ifCond .eq 7, 73, 77), (73, .iconst 0, 74, 0), (74, .goto 12, 77, 86), (77, .iconst 0, 78, 0), (78, .iload 7, 80, 0), (80, .iload 8, 82, 0), (82, .isub, 83, 0), (83, .invokestatic 34, 86, 0), (86, .iastore, 87, 0), (87, .aload_n 0, 88, 0), (88, .getfield 15, 91, 0), (91, .iload 5, 93, 0), (93, .iload 6, 95, 0), (95, .ifCond .eq 8, 98, 103), (98, .ldc 37, 100, 0), (100, .goto 8, 103, 108), (103, .iload 7, 105, 0), (105, .iload 8, 107, 0), (107, .iadd, 108, 0), (108, .iastore, 109, 0), (109, .iinc 5 1, 112, 0), (112, .goto (-96), 115, 16), (115, .aload_n 0, 116, 0), (116, .aload_n 1, 117, 0), (117, .iload_n 2, 118, 0), (118, .iconst 0, 119, 0), (119, .invokevirtual 38, 122, 0), (122, .putfield 41, 125, 0), (125, .aload_n 0, 126, 0), (126, .aload_n 1, 127, 0), (127, .iload_n 2, 128, 0), (128, .iconst 1, 129, 0), (129, .invokevirtual 38, 132, 0), (132, .putfield 44, 135, 0), (135, .aload_n 0, 136, 0), (136, .aload_n 1, 137, 0), (137, .iload_n 2, 138, 0), (138, .iconst 2, 139, 0), (139, .invokevirtual 38, 142, 0), (142, .putfield 47, 145, 0), (145, .aload_n 0, 146, 0), (146, .aload_n 1, 147, 0), (147, .iload_n 2, 148, 0), (148, .iconst 3, 149, 0), (149, .invokevirtual 38, 152, 0), (152, .putfield 50, 155, 0), (155, .return_, 156, 0)])
def M_X3_begin : wb_MD := (yX3_begin, cX3_begin, 1, none, { frames := 0, cells := 0, slots := 0, locals := 0 }, [(0, .aload_n 0, 1, 0), (1, .aload_n 0, 2, 0), (2, .getfield 41, 5, 0), (5, .putfield 53, 8, 0), (8, .aload_n 0, 9, 0), (9, .aload_n 0, 10, 0), (10, .getfield 44, 13, 0), (13, .putfield 56, 16, 0), (16, .return_, 17, 0)])
def M_X3_go : wb_MD := (yX3_go, cX3_go, 5, (some .boolean), { frames := 0, cells := 0, slots := 0, locals := 0 }, [(0, .iload_n 1, 1, 0), (1, .ifCond .lt 11, 4, 12), (4, .iload_n 1, 5, 0), (5, .aload_n 0, 6, 0), (6, .getfield 30, 9, 0), (9, .if_icmp .lt 5, 12, 14), (12, .iconst 0, 13, 0), (13, .ireturn, 14, 0), (14, .aload_n 0, 15, 0), (15, .getfield 53, 18, 0), (18, .aload_n 0, 19, 0), (19, .getfield 9, 22, 0), (22, .iload_n 1, 23, 0), (23, .iaload, 24, 0), (24, .iadd, 25, 0), (25, .iload_n 2, 26, 0), (26, .isub, 27, 0), (27, .aload_n 0, 28, 0), (28, .getfield 50, 31, 0), (31, .isub, 32, 0), (32, .istore_n 3, 33, 0), (33, .aload_n 0, 34, 0), (34, .getfield 56, 37, 0), (37, .aload_n 0, 38, 0), (38, .getfield 15, 41, 0), (41, .iload_n 1, 42, 0), (42, .iaload, 43, 0), (43, .iadd, 44, 0), (44, .iload_n 2, 45, 0), (45, .isub, 46, 0), (46, .istore 4, 48, 0), (48, .aload_n 0, 49, 0), (49, .iload_n 3, 50, 0), (50, .ifCond .ge 7, 53, 57), (53, .iconst 0, 54, 0), (54, .goto 4, 57, 58), (57, .iload_n 3, 58, 0), (58, .putfield 53, 61, 0), (61, .aload_n 0, 62, 0), (62, .iload 4, 64, 0), (64, .aload_n 0, 65, 0), (65, .getfield 47, 68, 0), (68, .if_icmp .le 10, 71, 78), (71, .aload_n 0, 72, 0), (72, .getfield 47, 75, 0), (75, .goto 5, 78, 80), (78, .iload 4, 80, 0), (80, .putfield 56, 83, 0), (83, .aload_n 0, 84, 0), (84, .getfield 53, 87, 0), (87, .aload_n 0, 88, 0), (88, .getfield 56, 91, 0), (91, .if_icmp .gt 7, 94, 98), (94, .iconst 1, 95, 0), (95, .goto 4, 98, 99), (98, .iconst 0, 99, 0), (99, .ireturn, 100, 0)])
def M_X3_beginBehind : wb_MD := (yX3_beginBehind, cX3_beginBehind, 1, none, { frames := 0, cells := 0, slots := 0, locals := 0 }, [(0, .aload_n 0, 1, 0), (1, .iconst 0, 2, 0), (2, .putfield 53, 5, 0), (5, .aload_n 0, 6, 0), (6, .aload_n 0, 7, 0), (7, .getfield 47, 10, 0), (10, .putfield 56, 13, 0), (13, .return_, 14, 0)])
def M_X3_goBack : wb_MD := (yX3_goBack, cX3_goBack, 5, (some .boolean), { frames := 0, cells := 0, slots := 0, locals := 0 }, [(0, .iload_n 1, 1, 0), (1, .ifCond .lt 11, 4, 12), (4, .iload_n 1, 5, 0), (5, .aload_n 0, 6, 0), (6, .getfield 30, 9, 0), (9, .if_icmp .lt 5, 12, 14), (12, .iconst 0, 13, 0), (13, .ireturn, 14, 0), (14, .aload_n 0, 15, 0), (15, .getfield 53, 18, 0), (18, .aload_n 0, 19, 0), (19, .getfield 15, 22, 0), (22, .iload_n 1, 23, 0), (23, .iaload, 24, 0), (24, .isub, 25, 0), (25, .iload_n 2, 26, 0), (26, .iadd, 27, 0), (27, .istore_n 3, 28, 0), (28, .aload_n 0, 29, 0), (29, .getfield 56, 32, 0), (32, .aload_n 0, 33, 0), (33, .getfield 9, 36, 0), (36, .iload_n 1, 37, 0), (37, .iaload, 38, 0), (38, .isub, 39, 0), (39, .iload_n 2, 40, 0), (40, .iadd, 41, 0), (41, .aload_n 0, 42, 0), (42, .getfield 50, 45, 0), (45, .iadd, 46, 0), (46, .istore 4, 48, 0), (48, .aload_n 0, 49, 0), (49, .iload_n 3, 50, 0), (50, .ifCond .ge 7, 53, 57), (53, .iconst 0, 54, 0), (54, .goto 4, 57, 58), (57, .iload_n 3, 58, 0), (58, .putfield 53, 61, 0), (61, .aload_n 0, 62, 0), (62, .iload 4, 64, 0), (64, .aload_n 0, 65, 0), (65, .getfield 47, 68, 0), (68, .if_icmp .le 10, 71, 78), (71, .aload_n 0, 72, 0), (72, .getfield 47, 75, 0), (75, .goto 5, 78, 80), (78, .iload 4, 80, 0), (80, .putfield 56, 83, 0), (83, .aload_n 0, 84, 0), (84, .getfield 53, 87, 0), (87, .aload_n 0, 88, 0), (88, .getfield 56, 91, 0), (91, .if_icmp .gt 7, 94, 98), (94, .iconst 1, 95, 0), (95, .goto 4, 98, 99), (98, .iconst 0, 99, 0), (99, .ireturn, 100, 0)])
def M_X4_init : wb_MD := (yX4_init, cX4_init, 2, none, { frames := 1, cells := 2, slots := 50, locals := 20 }, [(0, .aload_n 0, 1, 0), (1, .invokespecial 3, 4, 0), (4, .aload_n 0, 5, 0), (5, .bipush 25, 7, 0), (7, .newarray .long, 9, 0), (9, .putfield 9, 12, 0), (12, .aload_n 0, 13, 0), (13, .bipush 25, 15, 0), (15, .newarray .long, 17, 0), (17, .putfield 15, 20, 0), (20, .aload_n 0, 21, 0), (21, .iconst (-1), 22, 0), (22, .putfield 18, 25, 0), (25, .aload_n 0, 26, 0), (26, .aload_n 1, 27, 0), (27, .putfield 22, 30, 0), (30, .return_, 31, 0)])
def M_X4_close : wb_MD := (yX4_close, cX4_close, 4, none, { frames := 0, cells := 0, slots := 0, locals := 0 }, [(0, .aload_n 0, 1, 0), (1, .iload_n 1, 2, 0), (2, .putfield 26, 5, 0), (5, .aload_n 0, 6, 0), (6, .iload_n 2, 7, 0), (7, .putfield 18, 10, 0), (10, .iconst 0, 11, 0), (11, .istore_n 3, 12, 0), (12, .iload_n 3, 13, 0), (13, .bipush 25, 15, 0), (15, .if_icmp .ge 23, 18, 38), (18, .aload_n 0, 19, 0), (19, .getfield 9, 22, 0), (22, .iload_n 3, 23, 0), (23, .lconst 0, 24, 0), (24, .lastore, 25, 0), (25, .aload_n 0, 26, 0), (26, .getfield 15, 29, 0), (29, .iload_n 3, 30, 0), (30, .lconst 0, 31, 0), (31, .lastore, 32, 0), (32, .iinc 3 1, 35, 0), (35, .goto (-23), 38, 12), (38, .return_, 39, 0)])
def M_X4_pass : wb_MD := (yX4_pass, cX4_pass, 8, none, { frames := 1, cells := 0, slots := 0, locals := 23 }, [(0, .iload_n 1, 1, 0), (1, .bipush 24, 3, 0), (3, .invokestatic 29, 6, 0), (6, .ifCond .eq 12, 9, 18), (9, .iload_n 2, 10, 0), (10, .bipush 24, 12, 0), (12, .invokestatic 29, 15, 0), (15, .ifCond .ne 4, 18, 19), (18, .return_, 19, 0), (19, .aload_n 0, 20, 0), (20, .getfield 22, 23, 0), (23, .aload_n 0, 24, 0), (24, .getfield 26, 27, 0), (27, .iload_n 1, 28, 0), (28, .iconst 5, 29, 0), (29, .irem, 30, 0), (30, .invokevirtual 33, 33, 0), (33, .lstore_n 3, 34, 0), (34, .aload_n 0, 35, 0), (35, .getfield 22, 38, 0), (38, .aload_n 0, 39, 0), (39, .getfield 26, 42, 0), (42, .iload_n 1, 43, 0), (43, .iconst 5, 44, 0), (44, .irem, 45, 0), (45, .invokevirtual 39, 48, 0), (48, .lstore 5, 50, 0), (50, .aload_n 0, 51, 0), (51, .getfield 18, 54, 0), (54, .ifCond .lt 39, 57, 93), (57, .lload_n 3, 58, 0), (58, .aload_n 0, 59, 0), (59, .getfield 22, 62, 0), (62, .aload_n 0, 63, 0), (63, .getfield 18, 66, 0), (66, .iload_n 2, 67, 0), (67, .iconst 5, 68, 0), (68, .irem, 69, 0), (69, .invokevirtual 33, 72, 0), (72, .land, 73, 0), (73, .lstore_n 3, 74, 0), (74, .lload 5, 76, 0), (76, .aload_n 0, 77, 0), (77, .getfield 22, 80, 0), (80, .aload_n 0, 81, 0), (81, .getfield 18, 84, 0), (84, .iload_n 2, 85, 0), (85, .iconst 5, 86, 0), (86, .irem, 87, 0), (87, .invokevirtual 39, 90, 0), (90, .land, 91, 0), (91, .lstore 5, 93, 0), (93, .iload_n 1, 94, 0), (94, .iconst 5, 95, 0), (95, .idiv, 96, 0), (96, .iload_n 2, 97, 0), (97, .iconst 5, 98, 0), (98, .idiv, 99, 0), (99, .iconst 5, 100, 0), (100, .imul, 101, 0), (101, .iadd, 102, 0), (102, .istore 7, 104, 0), (104, .aload_n 0, 105, 0), (105, .getfield 9, 108, 0), (108, .iload 7, 110, 0), (110, .dup2, 111, 0), (111, .laload, 112, 0), (112, .lload_n 3, 113, 0), (113, .lor, 114, 0), (114, .lastore, 115, 0), (115, .aload_n 0, 116, 0), (116, .getfield 15, 119, 0), (119, .iload 7, 121, 0), (121, .dup2, 122, 0), (122, .laload, 123, 0), (123, .lload 5, 125, 0), (125, .lor, 126, 0), (126, .lastore, 127, 0), (127, .return_, 128, 0)])
def M_X4_narrow : wb_MD := (yX4_narrow, cX4_narrow, 4, none, { frames := 1, cells := 0, slots := 0, locals := 25 }, [(0, .iconst 0, 1, 0), (1, .istore_n 2, 2, 0), (2, .iload_n 2, 3, 0), (3, .bipush 125, 5, 0), (5, .if_icmp .ge 57, 8, 62), (8, .iload_n 2, 9, 0), (9, .aload_n 0, 10, 0), (10, .getfield 26, 13, 0), (13, .invokestatic 42, 16, 0), (16, .aload_n 0, 17, 0), (17, .getfield 18, 20, 0), (20, .ifCond .ge 7, 23, 27), (23, .iconst 0, 24, 0), (24, .goto 13, 27, 37), (27, .iconst 5, 28, 0), (28, .iload_n 2, 29, 0), (29, .aload_n 0, 30, 0), (30, .getfield 18, 33, 0), (33, .invokestatic 42, 36, 0), (36, .imul, 37, 0), (37, .iadd, 38, 0), (38, .istore_n 3, 39, 0), (39, .aload_n 1, 40, 0), (40, .iload_n 2, 41, 0), (41, .aload_n 0, 42, 0), (42, .getfield 9, 45, 0), (45, .iload_n 3, 46, 0), (46, .laload, 47, 0), (47, .aload_n 0, 48, 0), (48, .getfield 15, 51, 0), (51, .iload_n 3, 52, 0), (52, .laload, 53, 0), (53, .invokevirtual 46, 56, 0), (56, .iinc 2 1, 59, 0), (59, .goto (-57), 62, 2), (62, .return_, 63, 0)])
def M_X5_init : wb_MD := (yX5_init, cX5_init, 1, none, { frames := 1, cells := 1, slots := 250, locals := 20 }, [(0, .aload_n 0, 1, 0), (1, .invokespecial 3, 4, 0), (4, .aload_n 0, 5, 0), (5, .sipush 250, 8, 0), (8, .newarray .long, 10, 0), (10, .putfield 11, 13, 0), (13, .return_, 14, 0)])
def M_X5_low : wb_MD := (yX5_low, cX5_low, 2, (some .long), { frames := 0, cells := 0, slots := 0, locals := 0 }, [(0, .iload_n 1, 1, 0), (1, .ifCond .lt 20, 4, 21), (4, .iload_n 1, 5, 0), (5, .bipush 125, 7, 0), (7, .if_icmp .ge 14, 10, 21), (10, .aload_n 0, 11, 0), (11, .getfield 11, 14, 0), (14, .iconst 2, 15, 0), (15, .iload_n 1, 16, 0), (16, .imul, 17, 0), (17, .laload, 18, 0), (18, .goto 4, 21, 22), (21, .lconst 0, 22, 0), (22, .lreturn, 23, 0)])
def M_X5_high : wb_MD := (yX5_high, cX5_high, 2, (some .long), { frames := 0, cells := 0, slots := 0, locals := 0 }, [(0, .iload_n 1, 1, 0), (1, .ifCond .lt 22, 4, 23), (4, .iload_n 1, 5, 0), (5, .bipush 125, 7, 0), (7, .if_icmp .ge 16, 10, 23), (10, .aload_n 0, 11, 0), (11, .getfield 11, 14, 0), (14, .iconst 2, 15, 0), (15, .iload_n 1, 16, 0), (16, .imul, 17, 0), (17, .iconst 1, 18, 0), (18, .iadd, 19, 0), (19, .laload, 20, 0), (20, .goto 4, 23, 24), (23, .lconst 0, 24, 0), (24, .lreturn, 25, 0)])
def M_X5_addAll : wb_MD := (yX5_addAll, cX5_addAll, 2, none, { frames := 0, cells := 0, slots := 0, locals := 0 }, [(0, .iconst 0, 1, 0), (1, .istore_n 1, 2, 0), (2, .iload_n 1, 3, 0), (3, .bipush 125, 5, 0), (5, .if_icmp .ge 33, 8, 38), (8, .aload_n 0, 9, 0), (9, .getfield 11, 12, 0), (12, .iconst 2, 13, 0), (13, .iload_n 1, 14, 0), (14, .imul, 15, 0), (15, .ldc2_w 15, 18, 0), (18, .lastore, 19, 0), (19, .aload_n 0, 20, 0), (20, .getfield 11, 23, 0), (23, .iconst 2, 24, 0), (24, .iload_n 1, 25, 0), (25, .imul, 26, 0), (26, .iconst 1, 27, 0), (27, .iadd, 28, 0), (28, .ldc2_w 17, 31, 0), (31, .lastore, 32, 0), (32, .iinc 1 1, 35, 0), (35, .goto (-33), 38, 2), (38, .return_, 39, 0)])
def M_X5_removeAll : wb_MD := (yX5_removeAll, cX5_removeAll, 2, none, { frames := 0, cells := 0, slots := 0, locals := 0 }, [(0, .iconst 0, 1, 0), (1, .istore_n 1, 2, 0), (2, .iload_n 1, 3, 0), (3, .sipush 250, 6, 0), (6, .if_icmp .ge 16, 9, 22), (9, .aload_n 0, 10, 0), (10, .getfield 11, 13, 0), (13, .iload_n 1, 14, 0), (14, .lconst 0, 15, 0), (15, .lastore, 16, 0), (16, .iinc 1 1, 19, 0), (19, .goto (-17), 22, 2), (22, .return_, 23, 0)])
def M_X5_copy : wb_MD := (yX5_copy, cX5_copy, 2, none, { frames := 1, cells := 0, slots := 0, locals := 26 }, [(0, .aload_n 1, 1, 0), (1, .getfield 11, 4, 0), (4, .iconst 0, 5, 0), (5, .aload_n 0, 6, 0), (6, .getfield 11, 9, 0), (9, .iconst 0, 10, 0), (10, .sipush 250, 13, 0), (13, .invokestatic 19, 16, 0), (16, .return_, 17, 0)])
def M_X5_join : wb_MD := (yX5_join, cX5_join, 3, none, { frames := 0, cells := 0, slots := 0, locals := 0 }, [(0, .iconst 0, 1, 0), (1, .istore_n 2, 2, 0), (2, .iload_n 2, 3, 0), (3, .sipush 250, 6, 0), (6, .if_icmp .ge 24, 9, 30), (9, .aload_n 0, 10, 0), (10, .getfield 11, 13, 0), (13, .iload_n 2, 14, 0), (14, .dup2, 15, 0), (15, .laload, 16, 0), (16, .aload_n 1, 17, 0), (17, .getfield 11, 20, 0), (20, .iload_n 2, 21, 0), (21, .laload, 22, 0), (22, .lor, 23, 0), (23, .lastore, 24, 0), (24, .iinc 2 1, 27, 0), (27, .goto (-25), 30, 2), (30, .return_, 31, 0)])
def M_X5_narrow : wb_MD := (yX5_narrow, cX5_narrow, 6, none, { frames := 0, cells := 0, slots := 0, locals := 0 }, [(0, .iload_n 1, 1, 0), (1, .ifCond .lt 36, 4, 37), (4, .iload_n 1, 5, 0), (5, .bipush 125, 7, 0), (7, .if_icmp .ge 30, 10, 37), (10, .aload_n 0, 11, 0), (11, .getfield 11, 14, 0), (14, .iconst 2, 15, 0), (15, .iload_n 1, 16, 0), (16, .imul, 17, 0), (17, .dup2, 18, 0), (18, .laload, 19, 0), (19, .lload_n 2, 20, 0), (20, .land, 21, 0), (21, .lastore, 22, 0), (22, .aload_n 0, 23, 0), (23, .getfield 11, 26, 0), (26, .iconst 2, 27, 0), (27, .iload_n 1, 28, 0), (28, .imul, 29, 0), (29, .iconst 1, 30, 0), (30, .iadd, 31, 0), (31, .dup2, 32, 0), (32, .laload, 33, 0), (33, .lload 4, 35, 0), (35, .land, 36, 0), (36, .lastore, 37, 0), (37, .return_, 38, 0)])
def M_X5_has : wb_MD := (yX5_has, cX5_has, 2, (some .boolean), { frames := 1, cells := 0, slots := 0, locals := 20 }, [(0, .iload_n 1, 1, 0), (1, .invokestatic 25, 4, 0), (4, .ifCond .ne 5, 7, 9), (7, .iconst 0, 8, 0), (8, .ireturn, 9, 0), (9, .aload_n 0, 10, 0), (10, .getfield 11, 13, 0), (13, .iload_n 1, 14, 0), (14, .invokestatic 29, 17, 0), (17, .laload, 18, 0), (18, .iload_n 1, 19, 0), (19, .invokestatic 33, 22, 0), (22, .lushr, 23, 0), (23, .lconst 1, 24, 0), (24, .land, 25, 0), (25, .lconst 0, 26, 0), (26, .lcmp, 27, 0), (27, .ifCond .eq 7, 30, 34), (30, .iconst 1, 31, 0), (31, .goto 4, 34, 35), (34, .iconst 0, 35, 0), (35, .ireturn, 36, 0)])
def M_X5_count : wb_MD := (yX5_count, cX5_count, 3, (some .int), { frames := 1, cells := 0, slots := 0, locals := 21 }, [(0, .iconst 0, 1, 0), (1, .istore_n 1, 2, 0), (2, .iconst 0, 3, 0), (3, .istore_n 2, 4, 0), (4, .iload_n 2, 5, 0), (5, .sipush 250, 8, 0), (8, .if_icmp .ge 21, 11, 29), (11, .iload_n 1, 12, 0), (12, .aload_n 0, 13, 0), (13, .getfield 11, 16, 0), (16, .iload_n 2, 17, 0), (17, .laload, 18, 0), (18, .invokestatic 36, 21, 0), (21, .iadd, 22, 0), (22, .istore_n 1, 23, 0), (23, .iinc 2 1, 26, 0), (26, .goto (-22), 29, 4), (29, .iload_n 1, 30, 0), (30, .ireturn, 31, 0)])
def M_X5_next : wb_MD := (yX5_next, cX5_next, 7, (some .int), { frames := 3, cells := 0, slots := 0, locals := 64 }, [(0, .iload_n 1, 1, 0), (1, .invokestatic 25, 4, 0), (4, .ifCond .ne 5, 7, 9), (7, .iconst (-1), 8, 0), (8, .ireturn, 9, 0), (9, .iload_n 1, 10, 0), (10, .invokestatic 29, 13, 0), (13, .istore_n 2, 14, 0), (14, .iload_n 1, 15, 0), (15, .invokestatic 33, 18, 0), (18, .istore_n 3, 19, 0), (19, .aload_n 0, 20, 0), (20, .getfield 11, 23, 0), (23, .iload_n 2, 24, 0), (24, .laload, 25, 0), (25, .iload_n 3, 26, 0), (26, .lushr, 27, 0), (27, .iload_n 3, 28, 0), (28, .lshl, 29, 0), (29, .lstore 4, 31, 0), (31, .lload 4, 33, 0), (33, .lconst 0, 34, 0), (34, .lcmp, 35, 0), (35, .ifCond .eq 10, 38, 45), (38, .iload_n 2, 39, 0), (39, .lload 4, 41, 0), (41, .invokestatic 42, 44, 0), (44, .ireturn, 45, 0), (45, .iload_n 2, 46, 0), (46, .iconst 1, 47, 0), (47, .iadd, 48, 0), (48, .istore 6, 50, 0), (50, .iload 6, 52, 0), (52, .sipush 250, 55, 0), (55, .if_icmp .ge 34, 58, 89), (58, .aload_n 0, 59, 0), (59, .getfield 11, 62, 0), (62, .iload 6, 64, 0), (64, .laload, 65, 0), (65, .lconst 0, 66, 0), (66, .lcmp, 67, 0), (67, .ifCond .eq 16, 70, 83), (70, .iload 6, 72, 0), (72, .aload_n 0, 73, 0), (73, .getfield 11, 76, 0), (76, .iload 6, 78, 0), (78, .laload, 79, 0), (79, .invokestatic 42, 82, 0), (82, .ireturn, 83, 0), (83, .iinc 6 1, 86, 0), (86, .goto (-36), 89, 50), (89, .iconst (-1), 90, 0), (90, .ireturn, 91, 0)])
def M_X5_nth : wb_MD := (yX5_nth, cX5_nth, 5, (some .int), { frames := 3, cells := 0, slots := 0, locals := 64 }, [(0, .iload_n 1, 1, 0), (1, .ifCond .ge 5, 4, 6), (4, .iconst (-1), 5, 0), (5, .ireturn, 6, 0), (6, .iload_n 1, 7, 0), (7, .istore_n 2, 8, 0), (8, .iconst 0, 9, 0), (9, .istore_n 3, 10, 0), (10, .iload_n 3, 11, 0), (11, .sipush 250, 14, 0), (14, .if_icmp .ge 46, 17, 60), (17, .aload_n 0, 18, 0), (18, .getfield 11, 21, 0), (21, .iload_n 3, 22, 0), (22, .laload, 23, 0), (23, .invokestatic 36, 26, 0), (26, .istore 4, 28, 0), (28, .iload_n 2, 29, 0), (29, .iload 4, 31, 0), (31, .if_icmp .ge 18, 34, 49), (34, .iload_n 3, 35, 0), (35, .aload_n 0, 36, 0), (36, .getfield 11, 39, 0), (39, .iload_n 3, 40, 0), (40, .laload, 41, 0), (41, .iload_n 2, 42, 0), (42, .invokestatic 46, 45, 0), (45, .invokestatic 42, 48, 0), (48, .ireturn, 49, 0), (49, .iload_n 2, 50, 0), (50, .iload 4, 52, 0), (52, .isub, 53, 0), (53, .istore_n 2, 54, 0), (54, .iinc 3 1, 57, 0), (57, .goto (-47), 60, 10), (60, .iconst (-1), 61, 0), (61, .ireturn, 62, 0)])
def M_X5_withoutLowest : wb_MD := (yX5_withoutLowest, cX5_withoutLowest, 6, (some .long), { frames := 0, cells := 0, slots := 0, locals := 0 }, [(0, .lload_n 0, 1, 0), (1, .lstore_n 3, 2, 0), (2, .iconst 0, 3, 0), (3, .istore 5, 5, 0), (5, .iload 5, 7, 0), (7, .iload_n 2, 8, 0), (8, .if_icmp .ge 15, 11, 23), (11, .lload_n 3, 12, 0), (12, .lload_n 3, 13, 0), (13, .lconst 1, 14, 0), (14, .lsub, 15, 0), (15, .land, 16, 0), (16, .lstore_n 3, 17, 0), (17, .iinc 5 1, 20, 0), (20, .goto (-15), 23, 5), (23, .lload_n 3, 24, 0), (24, .lreturn, 25, 0)])
def M_X5_wordOf : wb_MD := (yX5_wordOf, cX5_wordOf, 1, (some .int), { frames := 0, cells := 0, slots := 0, locals := 0 }, [(0, .iload_n 0, 1, 0), (1, .bipush 125, 3, 0), (3, .idiv, 4, 0), (4, .iconst 2, 5, 0), (5, .imul, 6, 0), (6, .iload_n 0, 7, 0), (7, .bipush 125, 9, 0), (9, .irem, 10, 0), (10, .bipush 64, 12, 0), (12, .idiv, 13, 0), (13, .iadd, 14, 0), (14, .ireturn, 15, 0)])
def M_X5_bitOf : wb_MD := (yX5_bitOf, cX5_bitOf, 1, (some .int), { frames := 0, cells := 0, slots := 0, locals := 0 }, [(0, .iload_n 0, 1, 0), (1, .bipush 125, 3, 0), (3, .irem, 4, 0), (4, .bipush 64, 6, 0), (6, .irem, 7, 0), (7, .ireturn, 8, 0)])
def M_X5_numberOf : wb_MD := (yX5_numberOf, cX5_numberOf, 3, (some .int), { frames := 2, cells := 0, slots := 0, locals := 42 }, [(0, .iload_n 0, 1, 0), (1, .iconst 2, 2, 0), (2, .idiv, 3, 0), (3, .bipush 125, 5, 0), (5, .imul, 6, 0), (6, .iload_n 0, 7, 0), (7, .iconst 2, 8, 0), (8, .irem, 9, 0), (9, .bipush 64, 11, 0), (11, .imul, 12, 0), (12, .iadd, 13, 0), (13, .lload_n 1, 14, 0), (14, .invokestatic 50, 17, 0), (17, .iadd, 18, 0), (18, .ireturn, 19, 0)])
def M_X6_init : wb_MD := (yX6_init, cX6_init, 8, none, { frames := 2, cells := 4, slots := 38, locals := 43 }, [(0, .aload_n 0, 1, 0), (1, .invokespecial 3, 4, 0), (4, .aload_n 0, 5, 0), (5, .bipush 15, 7, 0), (7, .newarray .long, 9, 0), (9, .putfield 11, 12, 0), (12, .aload_n 0, 13, 0), (13, .bipush 15, 15, 0), (15, .newarray .long, 17, 0), (17, .putfield 15, 20, 0), (20, .aload_n 0, 21, 0), (21, .iconst 4, 22, 0), (22, .newarray .long, 24, 0), (24, .putfield 18, 27, 0), (27, .aload_n 0, 28, 0), (28, .iconst 4, 29, 0), (29, .newarray .long, 31, 0), (31, .putfield 21, 34, 0), (34, .iconst 0, 35, 0), (35, .istore_n 1, 36, 0), (36, .iload_n 1, 37, 0), (37, .bipush 125, 39, 0), (39, .if_icmp .ge 121, 42, 160), (42, .iload_n 1, 43, 0), (43, .bipush 64, 45, 0), (45, .if_icmp .ge 9, 48, 54), (48, .lconst 1, 49, 0), (49, .iload_n 1, 50, 0), (50, .lshl, 51, 0), (51, .goto 4, 54, 55), (54, .lconst 0, 55, 0), (55, .lstore_n 2, 56, 0), (56, .iload_n 1, 57, 0), (57, .bipush 64, 59, 0), (59, .if_icmp .ge 7, 62, 66), (62, .lconst 0, 63, 0), (63, .goto 9, 66, 72), (66, .lconst 1, 67, 0), (67, .iload_n 1, 68, 0), (68, .bipush 64, 70, 0), (70, .isub, 71, 0), (71, .lshl, 72, 0), (72, .lstore 4, 74, 0), (74, .iconst 0, 75, 0), (75, .istore 6, 77, 0), (77, .iload 6, 79, 0), (79, .iconst 3, 80, 0), (80, .if_icmp .ge 45, 83, 125), (83, .iload 6, 85, 0), (85, .iconst 5, 86, 0), (86, .imul, 87, 0), (87, .iload_n 1, 88, 0), (88, .iload 6, 90, 0), (90, .invokestatic 24, 93, 0), (93, .iadd, 94, 0), (94, .istore 7, 96, 0), (96, .aload_n 0, 97, 0), (97, .getfield 11, 100, 0), (100, .iload 7, 102, 0), (102, .dup2, 103, 0), (103, .laload, 104, 0), (104, .lload_n 2, 105, 0), (105, .lor, 106, 0), (106, .lastore, 107, 0), (107, .aload_n 0, 108, 0), (108, .getfield 15, 111, 0), (111, .iload 7, 113, 0), (113, .dup2, 114, 0), (114, .laload, 115, 0), (115, .lload 4, 117, 0), (117, .lor, 118, 0), (118, .lastore, 119, 0), (119, .iinc 6 1, 122, 0), (122, .goto (-45), 125, 77), (125, .iload_n 1, 126, 0), (126, .invokestatic 28, 129, 0), (129, .istore 6, 131, 0), (131, .aload_n 0, 132, 0), (132, .getfield 18, 135, 0), (135, .iload 6, 137, 0), (137, .dup2, 138, 0), (138, .laload, 139, 0), (139, .lload_n 2, 140, 0), (140, .lor, 141, 0), (141, .lastore, 142, 0), (142, .aload_n 0, 143, 0), (143, .getfield 21, 146, 0), (146, .iload 6, 148, 0), (148, .dup2, 149, 0), (149, .laload, 150, 0), (150, .lload 4, 152, 0), (152, .lor, 153, 0), (153, .lastore, 154, 0), (154, .iinc 1 1, 157, 0), (157, .goto (-121), 160, 36), (160, .return_, 161, 0)])
def M_X6_lowWith : wb_MD := (yX6_lowWith, cX6_lowWith, 4, (some .long), { frames := 0, cells := 0, slots := 0, locals := 0 }, [(0, .iload_n 1, 1, 0), (1, .iconst 5, 2, 0), (2, .imul, 3, 0), (3, .iload_n 2, 4, 0), (4, .iadd, 5, 0), (5, .istore_n 3, 6, 0), (6, .iload_n 3, 7, 0), (7, .ifCond .lt 21, 10, 28), (10, .iload_n 3, 11, 0), (11, .aload_n 0, 12, 0), (12, .getfield 11, 15, 0), (15, .arraylength, 16, 0), (16, .if_icmp .ge 12, 19, 28), (19, .aload_n 0, 20, 0), (20, .getfield 11, 23, 0), (23, .iload_n 3, 24, 0), (24, .laload, 25, 0), (25, .goto 4, 28, 29), (28, .lconst 0, 29, 0), (29, .lreturn, 30, 0)])
def M_X6_highWith : wb_MD := (yX6_highWith, cX6_highWith, 4, (some .long), { frames := 0, cells := 0, slots := 0, locals := 0 }, [(0, .iload_n 1, 1, 0), (1, .iconst 5, 2, 0), (2, .imul, 3, 0), (3, .iload_n 2, 4, 0), (4, .iadd, 5, 0), (5, .istore_n 3, 6, 0), (6, .iload_n 3, 7, 0), (7, .ifCond .lt 21, 10, 28), (10, .iload_n 3, 11, 0), (11, .aload_n 0, 12, 0), (12, .getfield 15, 15, 0), (15, .arraylength, 16, 0), (16, .if_icmp .ge 12, 19, 28), (19, .aload_n 0, 20, 0), (20, .getfield 15, 23, 0), (23, .iload_n 3, 24, 0), (24, .laload, 25, 0), (25, .goto 4, 28, 29), (28, .lconst 0, 29, 0), (29, .lreturn, 30, 0)])
def M_X6_lowOfThings : wb_MD := (yX6_lowOfThings, cX6_lowOfThings, 2, (some .long), { frames := 1, cells := 0, slots := 0, locals := 21 }, [(0, .iload_n 1, 1, 0), (1, .iconst 3, 2, 0), (2, .invokestatic 32, 5, 0), (5, .ifCond .eq 12, 8, 17), (8, .aload_n 0, 9, 0), (9, .getfield 18, 12, 0), (12, .iload_n 1, 13, 0), (13, .laload, 14, 0), (14, .goto 4, 17, 18), (17, .lconst 0, 18, 0), (18, .lreturn, 19, 0)])
def M_X6_highOfThings : wb_MD := (yX6_highOfThings, cX6_highOfThings, 2, (some .long), { frames := 1, cells := 0, slots := 0, locals := 21 }, [(0, .iload_n 1, 1, 0), (1, .iconst 3, 2, 0), (2, .invokestatic 32, 5, 0), (5, .ifCond .eq 12, 8, 17), (8, .aload_n 0, 9, 0), (9, .getfield 21, 12, 0), (12, .iload_n 1, 13, 0), (13, .laload, 14, 0), (14, .goto 4, 17, 18), (17, .lconst 0, 18, 0), (18, .lreturn, 19, 0)])
def M_X7_init : wb_MD := (yX7_init, cX7_init, 2, none, { frames := 1, cells := 0, slots := 0, locals := 20 }, [(0, .aload_n 0, 1, 0), (1, .invokespecial 3, 4, 0), (4, .aload_n 0, 5, 0), (5, .iconst (-1), 6, 0), (6, .putfield 9, 9, 0), (9, .aload_n 0, 10, 0), (10, .iconst (-1), 11, 0), (11, .putfield 15, 14, 0), (14, .aload_n 0, 15, 0), (15, .aload_n 1, 16, 0), (16, .putfield 18, 19, 0), (19, .return_, 20, 0)])
def M_X7_seekNear : wb_MD := (yX7_seekNear, cX7_seekNear, 1, none, { frames := 6, cells := 0, slots := 0, locals := 138 }, [(0, .aload_n 0, 1, 0), (1, .getfield 22, 4, 0), (4, .aload_n 0, 5, 0), (5, .getfield 18, 8, 0), (8, .getfield 25, 11, 0), (11, .if_icmp .ne 4, 14, 15), (14, .return_, 15, 0), (15, .aload_n 0, 16, 0), (16, .aload_n 0, 17, 0), (17, .getfield 18, 20, 0), (20, .getfield 25, 23, 0), (23, .putfield 22, 26, 0), (26, .aload_n 0, 27, 0), (27, .iconst 0, 28, 0), (28, .putfield 30, 31, 0), (31, .aload_n 0, 32, 0), (32, .aload_n 0, 33, 0), (33, .getfield 18, 36, 0), (36, .invokevirtual 33, 39, 0), (39, .putfield 9, 42, 0), (42, .aload_n 0, 43, 0), (43, .getfield 9, 46, 0), (46, .ifCond .ge 40, 49, 86), (49, .aload_n 0, 50, 0), (50, .getfield 18, 53, 0), (53, .bipush 99, 55, 0), (55, .iconst 0, 56, 0), (56, .invokevirtual 37, 59, 0), (59, .ifCond .lt 27, 62, 86), (62, .aload_n 0, 63, 0), (63, .aload_n 0, 64, 0), (64, .invokevirtual 41, 67, 0), (67, .putfield 30, 70, 0), (70, .aload_n 0, 71, 0), (71, .aload_n 0, 72, 0), (72, .getfield 18, 75, 0), (75, .aload_n 0, 76, 0), (76, .getfield 30, 79, 0), (79, .iconst 0, 80, 0), (80, .invokevirtual 37, 83, 0), (83, .putfield 9, 86, 0), (86, .return_, 87, 0)])
def M_X7_leastMore : wb_MD := (yX7_leastMore, cX7_leastMore, 5, (some .int), { frames := 5, cells := 0, slots := 0, locals := 114 }, [(0, .iconst 0, 1, 0), (1, .istore_n 1, 2, 0), (2, .bipush 99, 4, 0), (4, .istore_n 2, 5, 0), (5, .iconst 0, 6, 0), (6, .istore_n 3, 7, 0), (7, .iload_n 3, 8, 0), (8, .bipush 99, 10, 0), (10, .if_icmp .ge 45, 13, 55), (13, .iload_n 2, 14, 0), (14, .iload_n 1, 15, 0), (15, .isub, 16, 0), (16, .iconst 1, 17, 0), (17, .if_icmp .le 38, 20, 55), (20, .iload_n 1, 21, 0), (21, .iload_n 2, 22, 0), (22, .iadd, 23, 0), (23, .iconst 2, 24, 0), (24, .idiv, 25, 0), (25, .istore 4, 27, 0), (27, .aload_n 0, 28, 0), (28, .getfield 18, 31, 0), (31, .iload 4, 33, 0), (33, .iconst 0, 34, 0), (34, .invokevirtual 37, 37, 0), (37, .ifCond .lt 9, 40, 46), (40, .iload 4, 42, 0), (42, .istore_n 2, 43, 0), (43, .goto 6, 46, 49), (46, .iload 4, 48, 0), (48, .istore_n 1, 49, 0), (49, .iinc 3 1, 52, 0), (52, .goto (-45), 55, 7), (55, .iload_n 2, 56, 0), (56, .ireturn, 57, 0)])
def M_X7_seekDoubt : wb_MD := (yX7_seekDoubt, cX7_seekDoubt, 2, none, { frames := 6, cells := 0, slots := 0, locals := 136 }, [(0, .aload_n 0, 1, 0), (1, .getfield 44, 4, 0), (4, .aload_n 0, 5, 0), (5, .getfield 18, 8, 0), (8, .getfield 25, 11, 0), (11, .if_icmp .ne 4, 14, 15), (14, .return_, 15, 0), (15, .aload_n 0, 16, 0), (16, .aload_n 0, 17, 0), (17, .getfield 18, 20, 0), (20, .getfield 25, 23, 0), (23, .putfield 44, 26, 0), (26, .aload_n 0, 27, 0), (27, .iconst 0, 28, 0), (28, .putfield 47, 31, 0), (31, .aload_n 0, 32, 0), (32, .aload_n 0, 33, 0), (33, .getfield 18, 36, 0), (36, .invokevirtual 33, 39, 0), (39, .putfield 15, 42, 0), (42, .iconst 1, 43, 0), (43, .istore_n 1, 44, 0), (44, .iload_n 1, 45, 0), (45, .iconst 2, 46, 0), (46, .if_icmp .gt 21, 49, 67), (49, .aload_n 0, 50, 0), (50, .getfield 15, 53, 0), (53, .ifCond .ge 14, 56, 67), (56, .aload_n 0, 57, 0), (57, .iload_n 1, 58, 0), (58, .invokevirtual 50, 61, 0), (61, .iinc 1 1, 64, 0), (64, .goto (-20), 67, 44), (67, .return_, 68, 0)])
def M_X7_seekDoubtOf : wb_MD := (yX7_seekDoubtOf, cX7_seekDoubtOf, 3, none, { frames := 5, cells := 0, slots := 0, locals := 114 }, [(0, .iconst 1, 1, 0), (1, .istore_n 2, 2, 0), (2, .iload_n 2, 3, 0), (3, .iconst 1, 4, 0), (4, .aload_n 0, 5, 0), (5, .getfield 18, 8, 0), (8, .getfield 54, 11, 0), (11, .getfield 58, 14, 0), (14, .ishl, 15, 0), (15, .if_icmp .ge 50, 18, 65), (18, .iload_n 2, 19, 0), (19, .sipush 256, 22, 0), (22, .if_icmp .ge 43, 25, 65), (25, .iload_n 2, 26, 0), (26, .invokestatic 63, 29, 0), (29, .iload_n 1, 30, 0), (30, .if_icmp .ne 29, 33, 59), (33, .aload_n 0, 34, 0), (34, .iload_n 2, 35, 0), (35, .putfield 47, 38, 0), (38, .aload_n 0, 39, 0), (39, .aload_n 0, 40, 0), (40, .getfield 18, 43, 0), (43, .iconst 0, 44, 0), (44, .iload_n 2, 45, 0), (45, .invokevirtual 37, 48, 0), (48, .putfield 15, 51, 0), (51, .aload_n 0, 52, 0), (52, .getfield 15, 55, 0), (55, .ifCond .lt 4, 58, 59), (58, .return_, 59, 0), (59, .iinc 2 1, 62, 0), (62, .goto (-60), 65, 2), (65, .return_, 66, 0)])
def M_X8_init : wb_MD := (yX8_init, cX8_init, 1, none, { frames := 2, cells := 7, slots := 439, locals := 40 }, [(0, .aload_n 0, 1, 0), (1, .invokespecial 3, 4, 0), (4, .aload_n 0, 5, 0), (5, .bipush 50, 7, 0), (7, .newarray .int, 9, 0), (9, .putfield 9, 12, 0), (12, .aload_n 0, 13, 0), (13, .new 15, 16, 0), (16, .dup, 17, 0), (17, .invokespecial 17, 20, 0), (20, .putfield 18, 23, 0), (23, .aload_n 0, 24, 0), (24, .iconst 3, 25, 0), (25, .newarray .int, 27, 0), (27, .putfield 22, 30, 0), (30, .aload_n 0, 31, 0), (31, .iconst 3, 32, 0), (32, .newarray .int, 34, 0), (34, .putfield 25, 37, 0), (37, .aload_n 0, 38, 0), (38, .bipush 66, 40, 0), (40, .newarray .long, 42, 0), (42, .putfield 28, 45, 0), (45, .aload_n 0, 46, 0), (46, .bipush 66, 48, 0), (48, .newarray .long, 50, 0), (50, .putfield 32, 53, 0), (53, .return_, 54, 0)])
def M_X8_add : wb_MD := (yX8_add, cX8_add, 2, (some .boolean), { frames := 0, cells := 0, slots := 0, locals := 0 }, [(0, .aload_n 0, 1, 0), (1, .getfield 35, 4, 0), (4, .bipush 50, 6, 0), (6, .if_icmp .lt 5, 9, 11), (9, .iconst 0, 10, 0), (10, .ireturn, 11, 0), (11, .aload_n 0, 12, 0), (12, .getfield 9, 15, 0), (15, .aload_n 0, 16, 0), (16, .getfield 35, 19, 0), (19, .iload_n 1, 20, 0), (20, .iastore, 21, 0), (21, .aload_n 0, 22, 0), (22, .dup, 23, 0), (23, .getfield 35, 26, 0), (26, .iconst 1, 27, 0), (27, .iadd, 28, 0), (28, .putfield 35, 31, 0), (31, .iconst 1, 32, 0), (32, .ireturn, 33, 0)])
def M_X8_empty : wb_MD := (yX8_empty, cX8_empty, 2, (some .int), { frames := 0, cells := 0, slots := 0, locals := 0 }, [(0, .aload_n 0, 1, 0), (1, .getfield 35, 4, 0), (4, .istore_n 1, 5, 0), (5, .aload_n 0, 6, 0), (6, .iconst 0, 7, 0), (7, .putfield 35, 10, 0), (10, .iload_n 1, 11, 0), (11, .ireturn, 12, 0)])
def M_X8_firstFault : wb_MD := (yX8_firstFault, cX8_firstFault, 3, (some .int), { frames := 2, cells := 0, slots := 0, locals := 41 }, [(0, .iconst 0, 1, 0), (1, .istore_n 1, 2, 0), (2, .iconst 0, 3, 0), (3, .istore_n 2, 4, 0), (4, .iload_n 2, 5, 0), (5, .aload_n 0, 6, 0), (6, .getfield 35, 9, 0), (9, .if_icmp .ge 32, 12, 41), (12, .iload_n 2, 13, 0), (13, .bipush 50, 15, 0), (15, .if_icmp .ge 26, 18, 41), (18, .iload_n 1, 19, 0), (19, .aload_n 0, 20, 0), (20, .getfield 9, 23, 0), (23, .iload_n 2, 24, 0), (24, .iaload, 25, 0), (25, .invokestatic 39, 28, 0), (28, .istore_n 1, 29, 0), (29, .iload_n 1, 30, 0), (30, .ifCond .ge 5, 33, 35), (33, .iload_n 2, 34, 0), (34, .ireturn, 35, 0), (35, .iinc 2 1, 38, 0), (38, .goto (-34), 41, 4), (41, .iload_n 1, 42, 0), (42, .iconst 4, 43, 0), (43, .if_icmp .eq 8, 46, 51), (46, .iload_n 1, 47, 0), (47, .iconst 5, 48, 0), (48, .if_icmp .ne 8, 51, 56), (51, .bipush (-6), 53, 0), (53, .goto 7, 56, 60), (56, .aload_n 0, 57, 0), (57, .getfield 35, 60, 0), (60, .ireturn, 61, 0)])
def M_X8_behind : wb_MD := (yX8_behind, cX8_behind, 2, (some .int), { frames := 1, cells := 0, slots := 0, locals := 20 }, [(0, .iload_n 0, 1, 0), (1, .tableswitch 131 0 4 #[35, 53, 71, 94, 107], 36, 0), (36, .iload_n 1, 37, 0), (37, .bipush 112, 39, 0), (39, .if_icmp .eq 9, 42, 48), (42, .iload_n 1, 43, 0), (43, .bipush 113, 45, 0), (45, .if_icmp .ne 7, 48, 52), (48, .iconst 1, 49, 0), (49, .goto 4, 52, 53), (52, .iconst (-1), 53, 0), (53, .ireturn, 54, 0), (54, .iload_n 1, 55, 0), (55, .bipush 97, 57, 0), (57, .if_icmp .lt 13, 60, 70), (60, .iload_n 1, 61, 0), (61, .bipush 99, 63, 0), (63, .if_icmp .gt 7, 66, 70), (66, .iconst 2, 67, 0), (67, .goto 4, 70, 71), (70, .iconst (-1), 71, 0), (71, .ireturn, 72, 0), (72, .iload_n 1, 73, 0), (73, .bipush 43, 75, 0), (75, .if_icmp .ne 7, 78, 82), (78, .iconst 0, 79, 0), (79, .goto 15, 82, 94), (82, .iload_n 1, 83, 0), (83, .invokestatic 43, 86, 0), (86, .ifCond .eq 7, 89, 93), (89, .iconst 3, 90, 0), (90, .goto 4, 93, 94), (93, .iconst (-1), 94, 0), (94, .ireturn, 95, 0), (95, .iload_n 1, 96, 0), (96, .invokestatic 47, 99, 0), (99, .ifCond .eq 7, 102, 106), (102, .iconst 4, 103, 0), (103, .goto 4, 106, 107), (106, .iconst (-1), 107, 0), (107, .ireturn, 108, 0), (108, .iload_n 1, 109, 0), (109, .invokestatic 47, 112, 0), (112, .ifCond .eq 7, 115, 119), (115, .iconst 5, 116, 0), (116, .goto 15, 119, 131), (119, .iload_n 1, 120, 0), (120, .invokestatic 50, 123, 0), (123, .ifCond .eq 7, 126, 130), (126, .iconst 0, 127, 0), (127, .goto 4, 130, 131), (130, .iconst (-1), 131, 0), (131, .ireturn, 132, 0), (132, .iload_n 1, 133, 0), (133, .invokestatic 50, 136, 0), (136, .ifCond .eq 7, 139, 143), (139, .iconst 0, 140, 0), (140, .goto 4, 143, 144), (143, .iconst (-1), 144, 0), (144, .ireturn, 145, 0)])
def M_X8_isDigit : wb_MD := (yX8_isDigit, cX8_isDigit, 1, (some .boolean), { frames := 0, cells := 0, slots := 0, locals := 0 }, [(0, .iload_n 0, 1, 0), (1, .bipush 48, 3, 0), (3, .if_icmp .lt 13, 6, 16), (6, .iload_n 0, 7, 0), (7, .bipush 57, 9, 0), (9, .if_icmp .gt 7, 12, 16), (12, .iconst 1, 13, 0), (13, .goto 4, 16, 17), (16, .iconst 0, 17, 0), (17, .ireturn, 18, 0)])
def M_X8_isRelation : wb_MD := (yX8_isRelation, cX8_isRelation, 1, (some .boolean), { frames := 0, cells := 0, slots := 0, locals := 0 }, [(0, .iload_n 0, 1, 0), (1, .bipush 60, 3, 0), (3, .if_icmp .eq 15, 6, 18), (6, .iload_n 0, 7, 0), (7, .bipush 62, 9, 0), (9, .if_icmp .eq 9, 12, 18), (12, .iload_n 0, 13, 0), (13, .bipush 61, 15, 0), (15, .if_icmp .ne 7, 18, 22), (18, .iconst 1, 19, 0), (19, .goto 4, 22, 23), (22, .iconst 0, 23, 0), (23, .ireturn, 24, 0)])
def M_X8_isLink : wb_MD := (yX8_isLink, cX8_isLink, 1, (some .boolean), { frames := 0, cells := 0, slots := 0, locals := 0 }, [(0, .iload_n 0, 1, 0), (1, .bipush 38, 3, 0), (3, .if_icmp .eq 9, 6, 12), (6, .iload_n 0, 7, 0), (7, .bipush 124, 9, 0), (9, .if_icmp .ne 7, 12, 16), (12, .iconst 1, 13, 0), (13, .goto 4, 16, 17), (16, .iconst 0, 17, 0), (17, .ireturn, 18, 0)])
def M_X8_collect : wb_MD := (yX8_collect, cX8_collect, 4, (some .int), { frames := 3, cells := 0, slots := 0, locals := 70 }, [(0, .iconst 1, 1, 0), (1, .istore_n 2, 2, 0), (2, .aload_n 1, 3, 0), (3, .invokevirtual 53, 6, 0), (6, .aload_n 0, 7, 0), (7, .getfield 18, 10, 0), (10, .invokevirtual 56, 13, 0), (13, .aload_n 0, 14, 0), (14, .invokevirtual 59, 17, 0), (17, .iconst 0, 18, 0), (18, .istore_n 3, 19, 0), (19, .iload_n 3, 20, 0), (20, .aload_n 0, 21, 0), (21, .getfield 35, 24, 0), (24, .if_icmp .ge 73, 27, 97), (27, .iload_n 3, 28, 0), (28, .bipush 50, 30, 0), (30, .if_icmp .ge 67, 33, 97), (33, .aload_n 0, 34, 0), (34, .getfield 9, 37, 0), (37, .iload_n 3, 38, 0), (38, .iaload, 39, 0), (39, .invokestatic 50, 42, 0), (42, .ifCond .eq 10, 45, 52), (45, .aload_n 0, 46, 0), (46, .invokevirtual 62, 49, 0), (49, .goto 13, 52, 62), (52, .aload_n 0, 53, 0), (53, .aload_n 0, 54, 0), (54, .getfield 9, 57, 0), (57, .iload_n 3, 58, 0), (58, .iaload, 59, 0), (59, .invokevirtual 65, 62, 0), (62, .aload_n 0, 63, 0), (63, .getfield 9, 66, 0), (66, .iload_n 3, 67, 0), (67, .iaload, 68, 0), (68, .bipush 124, 70, 0), (70, .if_icmp .ne 21, 73, 91), (73, .iinc 2 1, 76, 0), (76, .aload_n 1, 77, 0), (77, .aload_n 0, 78, 0), (78, .getfield 18, 81, 0), (81, .invokevirtual 69, 84, 0), (84, .aload_n 0, 85, 0), (85, .getfield 18, 88, 0), (88, .invokevirtual 56, 91, 0), (91, .iinc 3 1, 94, 0), (94, .goto (-75), 97, 19), (97, .aload_n 0, 98, 0), (98, .invokevirtual 62, 101, 0), (101, .aload_n 1, 102, 0), (102, .aload_n 0, 103, 0), (103, .getfield 18, 106, 0), (106, .invokevirtual 69, 109, 0), (109, .iload_n 2, 110, 0), (110, .ireturn, 111, 0)])
def M_X8_beginTest : wb_MD := (yX8_beginTest, cX8_beginTest, 2, none, { frames := 0, cells := 0, slots := 0, locals := 0 }, [(0, .iconst 0, 1, 0), (1, .istore_n 1, 2, 0), (2, .iload_n 1, 3, 0), (3, .iconst 3, 4, 0), (4, .if_icmp .ge 23, 7, 27), (7, .aload_n 0, 8, 0), (8, .getfield 22, 11, 0), (11, .iload_n 1, 12, 0), (12, .iconst 0, 13, 0), (13, .iastore, 14, 0), (14, .aload_n 0, 15, 0), (15, .getfield 25, 18, 0), (18, .iload_n 1, 19, 0), (19, .iconst 0, 20, 0), (20, .iastore, 21, 0), (21, .iinc 1 1, 24, 0), (24, .goto (-22), 27, 2), (27, .aload_n 0, 28, 0), (28, .iconst 0, 29, 0), (29, .putfield 73, 32, 0), (32, .return_, 33, 0)])
def M_X8_readOn : wb_MD := (yX8_readOn, cX8_readOn, 2, none, { frames := 1, cells := 0, slots := 0, locals := 20 }, [(0, .iload_n 1, 1, 0), (1, .bipush 112, 3, 0), (3, .if_icmp .eq 9, 6, 12), (6, .iload_n 1, 7, 0), (7, .bipush 113, 9, 0), (9, .if_icmp .ne 11, 12, 20), (12, .aload_n 0, 13, 0), (13, .iload_n 1, 14, 0), (14, .putfield 76, 17, 0), (17, .goto 108, 20, 125), (20, .iload_n 1, 21, 0), (21, .invokestatic 47, 24, 0), (24, .ifCond .eq 22, 27, 46), (27, .aload_n 0, 28, 0), (28, .aload_n 0, 29, 0), (29, .getfield 73, 32, 0), (32, .bipush 10, 34, 0), (34, .imul, 35, 0), (35, .iload_n 1, 36, 0), (36, .iadd, 37, 0), (37, .bipush 48, 39, 0), (39, .isub, 40, 0), (40, .putfield 73, 43, 0), (43, .goto 82, 46, 125), (46, .iload_n 1, 47, 0), (47, .invokestatic 43, 50, 0), (50, .ifCond .eq 11, 53, 61), (53, .aload_n 0, 54, 0), (54, .iload_n 1, 55, 0), (55, .putfield 79, 58, 0), (58, .goto 67, 61, 125), (61, .iload_n 1, 62, 0), (62, .bipush 97, 64, 0), (64, .if_icmp .lt 61, 67, 125), (67, .iload_n 1, 68, 0), (68, .bipush 99, 70, 0), (70, .if_icmp .gt 55, 73, 125), (73, .aload_n 0, 74, 0), (74, .getfield 22, 77, 0), (77, .iload_n 1, 78, 0), (78, .bipush 97, 80, 0), (80, .isub, 81, 0), (81, .dup2, 82, 0), (82, .iaload, 83, 0), (83, .aload_n 0, 84, 0), (84, .getfield 76, 87, 0), (87, .bipush 112, 89, 0), (89, .if_icmp .ne 7, 92, 96), (92, .iconst 1, 93, 0), (93, .goto 4, 96, 97), (96, .iconst 0, 97, 0), (97, .iadd, 98, 0), (98, .iastore, 99, 0), (99, .aload_n 0, 100, 0), (100, .getfield 25, 103, 0), (103, .iload_n 1, 104, 0), (104, .bipush 97, 106, 0), (106, .isub, 107, 0), (107, .dup2, 108, 0), (108, .iaload, 109, 0), (109, .aload_n 0, 110, 0), (110, .getfield 76, 113, 0), (113, .bipush 113, 115, 0), (115, .if_icmp .ne 7, 118, 122), (118, .iconst 1, 119, 0), (119, .goto 4, 122, 123), (122, .iconst 0, 123, 0), (123, .iadd, 124, 0), (124, .iastore, 125, 0), (125, .return_, 126, 0)])
def M_X8_endTest : wb_MD := (yX8_endTest, cX8_endTest, 2, none, { frames := 2, cells := 0, slots := 0, locals := 49 }, [(0, .aload_n 0, 1, 0), (1, .invokevirtual 82, 4, 0), (4, .iconst 0, 5, 0), (5, .istore_n 1, 6, 0), (6, .iload_n 1, 7, 0), (7, .bipush 125, 9, 0), (9, .if_icmp .ge 27, 12, 36), (12, .aload_n 0, 13, 0), (13, .iload_n 1, 14, 0), (14, .aload_n 0, 15, 0), (15, .getfield 73, 18, 0), (18, .aload_n 0, 19, 0), (19, .getfield 22, 22, 0), (22, .iload_n 1, 23, 0), (23, .invokestatic 85, 26, 0), (26, .isub, 27, 0), (27, .invokevirtual 89, 30, 0), (30, .iinc 1 1, 33, 0), (33, .goto (-27), 36, 6), (36, .aload_n 0, 37, 0), (37, .invokevirtual 59, 40, 0), (40, .return_, 41, 0)])
def M_X8_setBelow : wb_MD := (yX8_setBelow, cX8_setBelow, 3, none, { frames := 1, cells := 0, slots := 0, locals := 21 }, [(0, .iconst 0, 1, 0), (1, .istore_n 1, 2, 0), (2, .iload_n 1, 3, 0), (3, .bipush 66, 5, 0), (5, .if_icmp .ge 23, 8, 28), (8, .aload_n 0, 9, 0), (9, .getfield 28, 12, 0), (12, .iload_n 1, 13, 0), (13, .lconst 0, 14, 0), (14, .lastore, 15, 0), (15, .aload_n 0, 16, 0), (16, .getfield 32, 19, 0), (19, .iload_n 1, 20, 0), (20, .lconst 0, 21, 0), (21, .lastore, 22, 0), (22, .iinc 1 1, 25, 0), (25, .goto (-23), 28, 2), (28, .iconst 0, 29, 0), (29, .istore_n 1, 30, 0), (30, .iload_n 1, 31, 0), (31, .bipush 125, 33, 0), (33, .if_icmp .ge 61, 36, 94), (36, .iconst 1, 37, 0), (37, .aload_n 0, 38, 0), (38, .getfield 25, 41, 0), (41, .iload_n 1, 42, 0), (42, .invokestatic 85, 45, 0), (45, .bipush 64, 47, 0), (47, .invokestatic 93, 50, 0), (50, .iadd, 51, 0), (51, .istore_n 2, 52, 0), (52, .iload_n 1, 53, 0), (53, .bipush 64, 55, 0), (55, .if_icmp .ge 18, 58, 73), (58, .aload_n 0, 59, 0), (59, .getfield 28, 62, 0), (62, .iload_n 2, 63, 0), (63, .dup2, 64, 0), (64, .laload, 65, 0), (65, .lconst 1, 66, 0), (66, .iload_n 1, 67, 0), (67, .lshl, 68, 0), (68, .lor, 69, 0), (69, .lastore, 70, 0), (70, .goto 18, 73, 88), (73, .aload_n 0, 74, 0), (74, .getfield 32, 77, 0), (77, .iload_n 2, 78, 0), (78, .dup2, 79, 0), (79, .laload, 80, 0), (80, .lconst 1, 81, 0), (81, .iload_n 1, 82, 0), (82, .bipush 64, 84, 0), (84, .isub, 85, 0), (85, .lshl, 86, 0), (86, .lor, 87, 0), (87, .lastore, 88, 0), (88, .iinc 1 1, 91, 0), (91, .goto (-61), 94, 30), (94, .iconst 1, 95, 0), (95, .istore_n 1, 96, 0), (96, .iload_n 1, 97, 0), (97, .bipush 66, 99, 0), (99, .if_icmp .ge 43, 102, 142), (102, .aload_n 0, 103, 0), (103, .getfield 28, 106, 0), (106, .iload_n 1, 107, 0), (107, .dup2, 108, 0), (108, .laload, 109, 0), (109, .aload_n 0, 110, 0), (110, .getfield 28, 113, 0), (113, .iload_n 1, 114, 0), (114, .iconst 1, 115, 0), (115, .isub, 116, 0), (116, .laload, 117, 0), (117, .lor, 118, 0), (118, .lastore, 119, 0), (119, .aload_n 0, 120, 0), (120, .getfield 32, 123, 0), (123, .iload_n 1, 124, 0), (124, .dup2, 125, 0), (125, .laload, 126, 0), (126, .aload_n 0, 127, 0), (127, .getfield 32, 130, 0), (130, .iload_n 1, 131, 0), (131, .iconst 1, 132, 0), (132, .isub, 133, 0), (133, .laload, 134, 0), (134, .lor, 135, 0), (135, .lastore, 136, 0), (136, .iinc 1 1, 139, 0), (139, .goto (-43), 142, 96), (142, .return_, 143, 0)])
def M_X8_sumOf : wb_MD := (yX8_sumOf, cX8_sumOf, 2, (some .int), { frames := 0, cells := 0, slots := 0, locals := 0 }, [(0, .aload_n 0, 1, 0), (1, .iconst 0, 2, 0), (2, .iaload, 3, 0), (3, .iload_n 1, 4, 0), (4, .bipush 25, 6, 0), (6, .idiv, 7, 0), (7, .imul, 8, 0), (8, .aload_n 0, 9, 0), (9, .iconst 1, 10, 0), (10, .iaload, 11, 0), (11, .iload_n 1, 12, 0), (12, .iconst 5, 13, 0), (13, .idiv, 14, 0), (14, .iconst 5, 15, 0), (15, .irem, 16, 0), (16, .imul, 17, 0), (17, .iadd, 18, 0), (18, .aload_n 0, 19, 0), (19, .iconst 2, 20, 0), (20, .iaload, 21, 0), (21, .iload_n 1, 22, 0), (22, .iconst 5, 23, 0), (23, .irem, 24, 0), (24, .imul, 25, 0), (25, .iadd, 26, 0), (26, .ireturn, 27, 0)])
def M_X8_narrowBoth : wb_MD := (yX8_narrowBoth, cX8_narrowBoth, 5, none, { frames := 1, cells := 0, slots := 0, locals := 25 }, [(0, .iconst 0, 1, 0), (1, .bipush 65, 3, 0), (3, .iload_n 2, 4, 0), (4, .invokestatic 93, 7, 0), (7, .invokestatic 98, 10, 0), (10, .istore_n 3, 11, 0), (11, .iconst 0, 12, 0), (12, .bipush 65, 14, 0), (14, .iload_n 2, 15, 0), (15, .iconst 1, 16, 0), (16, .iadd, 17, 0), (17, .invokestatic 93, 20, 0), (20, .invokestatic 98, 23, 0), (23, .istore 4, 25, 0), (25, .aload_n 0, 26, 0), (26, .getfield 79, 29, 0), (29, .bipush 60, 31, 0), (31, .if_icmp .ne 26, 34, 57), (34, .aload_n 0, 35, 0), (35, .getfield 18, 38, 0), (38, .iload_n 1, 39, 0), (39, .aload_n 0, 40, 0), (40, .getfield 28, 43, 0), (43, .iload_n 3, 44, 0), (44, .laload, 45, 0), (45, .aload_n 0, 46, 0), (46, .getfield 32, 49, 0), (49, .iload_n 3, 50, 0), (50, .laload, 51, 0), (51, .invokevirtual 101, 54, 0), (54, .goto 89, 57, 143), (57, .aload_n 0, 58, 0), (58, .getfield 79, 61, 0), (61, .bipush 62, 63, 0), (63, .if_icmp .ne 36, 66, 99), (66, .aload_n 0, 67, 0), (67, .getfield 18, 70, 0), (70, .iload_n 1, 71, 0), (71, .aload_n 0, 72, 0), (72, .getfield 28, 75, 0), (75, .iload 4, 77, 0), (77, .laload, 78, 0), (78, .ldc2_w 105, 81, 0), (81, .lxor, 82, 0), (82, .aload_n 0, 83, 0), (83, .getfield 32, 86, 0), (86, .iload 4, 88, 0), (88, .laload, 89, 0), (89, .ldc2_w 105, 92, 0), (92, .lxor, 93, 0), (93, .invokevirtual 101, 96, 0), (96, .goto 47, 99, 143), (99, .aload_n 0, 100, 0), (100, .getfield 18, 103, 0), (103, .iload_n 1, 104, 0), (104, .aload_n 0, 105, 0), (105, .getfield 28, 108, 0), (108, .iload 4, 110, 0), (110, .laload, 111, 0), (111, .aload_n 0, 112, 0), (112, .getfield 28, 115, 0), (115, .iload_n 3, 116, 0), (116, .laload, 117, 0), (117, .ldc2_w 105, 120, 0), (120, .lxor, 121, 0), (121, .land, 122, 0), (122, .aload_n 0, 123, 0), (123, .getfield 32, 126, 0), (126, .iload 4, 128, 0), (128, .laload, 129, 0), (129, .aload_n 0, 130, 0), (130, .getfield 32, 133, 0), (133, .iload_n 3, 134, 0), (134, .laload, 135, 0), (135, .ldc2_w 105, 138, 0), (138, .lxor, 139, 0), (139, .land, 140, 0), (140, .invokevirtual 101, 143, 0), (143, .return_, 144, 0)])
def M_X9_init : wb_MD := (yX9_init, cX9_init, 2, none, { frames := 2, cells := 6, slots := 1128, locals := 40 }, [(0, .aload_n 0, 1, 0), (1, .invokespecial 3, 4, 0), (4, .aload_n 0, 5, 0), (5, .new 9, 8, 0), (8, .dup, 9, 0), (9, .invokespecial 11, 12, 0), (12, .putfield 12, 15, 0), (15, .aload_n 0, 16, 0), (16, .sipush 625, 19, 0), (19, .newarray .int, 21, 0), (21, .putfield 18, 24, 0), (24, .aload_n 0, 25, 0), (25, .bipush 12, 27, 0), (27, .newarray .int, 29, 0), (29, .putfield 22, 32, 0), (32, .aload_n 0, 33, 0), (33, .bipush 24, 35, 0), (35, .newarray .int, 37, 0), (37, .putfield 25, 40, 0), (40, .aload_n 0, 41, 0), (41, .sipush 216, 44, 0), (44, .newarray .int, 46, 0), (46, .putfield 28, 49, 0), (49, .aload_n 0, 50, 0), (50, .aload_n 1, 51, 0), (51, .putfield 31, 54, 0), (54, .return_, 55, 0)])
def M_X9_settling : wb_MD := (yX9_settling, cX9_settling, 3, (some .int), { frames := 6, cells := 0, slots := 0, locals := 153 }, [(0, .aload_n 0, 1, 0), (1, .invokevirtual 35, 4, 0), (4, .iconst 0, 5, 0), (5, .istore_n 1, 6, 0), (6, .iconst 1, 7, 0), (7, .istore_n 2, 8, 0), (8, .iload_n 2, 9, 0), (9, .aload_n 0, 10, 0), (10, .getfield 31, 13, 0), (13, .getfield 38, 16, 0), (16, .getfield 44, 19, 0), (19, .iconst 3, 20, 0), (20, .imul, 21, 0), (21, .if_icmp .ge 32, 24, 53), (24, .iload_n 2, 25, 0), (25, .bipush 24, 27, 0), (27, .if_icmp .ge 26, 30, 53), (30, .aload_n 0, 31, 0), (31, .getfield 25, 34, 0), (34, .iload_n 2, 35, 0), (35, .iaload, 36, 0), (36, .aload_n 0, 37, 0), (37, .getfield 25, 40, 0), (40, .iload_n 1, 41, 0), (41, .iaload, 42, 0), (42, .if_icmp .ge 5, 45, 47), (45, .iload_n 2, 46, 0), (46, .istore_n 1, 47, 0), (47, .iinc 2 1, 50, 0), (50, .goto (-42), 53, 8), (53, .iload_n 1, 54, 0), (54, .ireturn, 55, 0)])
def M_X9_mostLeft : wb_MD := (yX9_mostLeft, cX9_mostLeft, 2, (some .int), { frames := 0, cells := 0, slots := 0, locals := 0 }, [(0, .iload_n 1, 1, 0), (1, .ifCond .lt 18, 4, 19), (4, .iload_n 1, 5, 0), (5, .bipush 24, 7, 0), (7, .if_icmp .ge 12, 10, 19), (10, .aload_n 0, 11, 0), (11, .getfield 25, 14, 0), (14, .iload_n 1, 15, 0), (15, .iaload, 16, 0), (16, .goto 4, 19, 20), (19, .iconst 0, 20, 0), (20, .ireturn, 21, 0)])
def M_X9_hiding : wb_MD := (yX9_hiding, cX9_hiding, 7, (some .int), { frames := 6, cells := 0, slots := 0, locals := 153 }, [(0, .aload_n 0, 1, 0), (1, .invokevirtual 35, 4, 0), (4, .iconst (-1), 5, 0), (5, .istore_n 2, 6, 0), (6, .iconst 0, 7, 0), (7, .istore_n 3, 8, 0), (8, .iconst 0, 9, 0), (9, .istore 4, 11, 0), (11, .iload 4, 13, 0), (13, .aload_n 0, 14, 0), (14, .getfield 31, 17, 0), (17, .getfield 38, 20, 0), (20, .getfield 44, 23, 0), (23, .iconst 3, 24, 0), (24, .imul, 25, 0), (25, .bipush 9, 27, 0), (27, .imul, 28, 0), (28, .if_icmp .ge 89, 31, 117), (31, .iload 4, 33, 0), (33, .aload_n 0, 34, 0), (34, .getfield 28, 37, 0), (37, .arraylength, 38, 0), (38, .if_icmp .ge 79, 41, 117), (41, .aload_n 0, 42, 0), (42, .getfield 31, 45, 0), (45, .getfield 38, 48, 0), (48, .iload 4, 50, 0), (50, .bipush 9, 52, 0), (52, .idiv, 53, 0), (53, .iconst 3, 54, 0), (54, .idiv, 55, 0), (55, .bipush 6, 57, 0), (57, .iload 4, 59, 0), (59, .bipush 9, 61, 0), (61, .idiv, 62, 0), (62, .iconst 3, 63, 0), (63, .irem, 64, 0), (64, .iadd, 65, 0), (65, .invokevirtual 50, 68, 0), (68, .istore 5, 70, 0), (70, .iload 5, 72, 0), (72, .iload 4, 74, 0), (74, .bipush 9, 76, 0), (76, .irem, 77, 0), (77, .iconst 1, 78, 0), (78, .iadd, 79, 0), (79, .imul, 80, 0), (80, .istore 6, 82, 0), (82, .iload 6, 84, 0), (84, .iload_n 1, 85, 0), (85, .if_icmp .gt 26, 88, 111), (88, .iload_n 2, 89, 0), (89, .ifCond .lt 16, 92, 105), (92, .aload_n 0, 93, 0), (93, .iload 4, 95, 0), (95, .iload 6, 97, 0), (97, .iload_n 2, 98, 0), (98, .iload_n 3, 99, 0), (99, .invokevirtual 54, 102, 0), (102, .ifCond .eq 9, 105, 111), (105, .iload 4, 107, 0), (107, .istore_n 2, 108, 0), (108, .iload 6, 110, 0), (110, .istore_n 3, 111, 0), (111, .iinc 4 1, 114, 0), (114, .goto (-103), 117, 11), (117, .iload_n 2, 118, 0), (118, .ireturn, 119, 0)])
def M_X9_isBetter : wb_MD := (yX9_isBetter, cX9_isBetter, 5, (some .boolean), { frames := 1, cells := 0, slots := 0, locals := 21 }, [(0, .aload_n 0, 1, 0), (1, .iload_n 1, 2, 0), (2, .invokevirtual 58, 5, 0), (5, .aload_n 0, 6, 0), (6, .iload_n 3, 7, 0), (7, .invokevirtual 58, 10, 0), (10, .if_icmp .gt 22, 13, 32), (13, .aload_n 0, 14, 0), (14, .iload_n 1, 15, 0), (15, .invokevirtual 58, 18, 0), (18, .aload_n 0, 19, 0), (19, .iload_n 3, 20, 0), (20, .invokevirtual 58, 23, 0), (23, .if_icmp .ne 13, 26, 36), (26, .iload_n 2, 27, 0), (27, .iload 4, 29, 0), (29, .if_icmp .ge 7, 32, 36), (32, .iconst 1, 33, 0), (33, .goto 4, 36, 37), (36, .iconst 0, 37, 0), (37, .ireturn, 38, 0)])
def M_X9_hidden : wb_MD := (yX9_hidden, cX9_hidden, 2, (some .int), { frames := 0, cells := 0, slots := 0, locals := 0 }, [(0, .iload_n 1, 1, 0), (1, .ifCond .lt 21, 4, 22), (4, .iload_n 1, 5, 0), (5, .aload_n 0, 6, 0), (6, .getfield 28, 9, 0), (9, .arraylength, 10, 0), (10, .if_icmp .ge 12, 13, 22), (13, .aload_n 0, 14, 0), (14, .getfield 28, 17, 0), (17, .iload_n 1, 18, 0), (18, .iaload, 19, 0), (19, .goto 4, 22, 23), (22, .iconst 0, 23, 0), (23, .ireturn, 24, 0)])
def M_X9_weighAll : wb_MD := (yX9_weighAll, cX9_weighAll, 3, none, { frames := 5, cells := 0, slots := 0, locals := 131 }, [(0, .aload_n 0, 1, 0), (1, .getfield 31, 4, 0), (4, .invokevirtual 62, 7, 0), (7, .aload_n 0, 8, 0), (8, .getfield 65, 11, 0), (11, .aload_n 0, 12, 0), (12, .getfield 31, 15, 0), (15, .getfield 68, 18, 0), (18, .if_icmp .ne 4, 21, 22), (21, .return_, 22, 0), (22, .aload_n 0, 23, 0), (23, .aload_n 0, 24, 0), (24, .getfield 31, 27, 0), (27, .getfield 68, 30, 0), (30, .putfield 65, 33, 0), (33, .aload_n 0, 34, 0), (34, .getfield 31, 37, 0), (37, .invokevirtual 69, 40, 0), (40, .iconst 0, 41, 0), (41, .istore_n 1, 42, 0), (42, .iload_n 1, 43, 0), (43, .iconst 3, 44, 0), (44, .if_icmp .ge 60, 47, 104), (47, .aload_n 0, 48, 0), (48, .iload_n 1, 49, 0), (49, .invokevirtual 72, 52, 0), (52, .iconst 0, 53, 0), (53, .istore_n 2, 54, 0), (54, .iload_n 2, 55, 0), (55, .aload_n 0, 56, 0), (56, .getfield 31, 59, 0), (59, .getfield 38, 62, 0), (62, .getfield 44, 65, 0), (65, .if_icmp .ge 33, 68, 98), (68, .iload_n 2, 69, 0), (69, .bipush 8, 71, 0), (71, .if_icmp .ge 27, 74, 98), (74, .aload_n 0, 75, 0), (75, .aload_n 0, 76, 0), (76, .getfield 31, 79, 0), (79, .iload_n 1, 80, 0), (80, .invokevirtual 76, 83, 0), (83, .iload_n 2, 84, 0), (84, .iload_n 2, 85, 0), (85, .iconst 3, 86, 0), (86, .imul, 87, 0), (87, .iload_n 1, 88, 0), (88, .iadd, 89, 0), (89, .invokevirtual 80, 92, 0), (92, .iinc 2 1, 95, 0), (95, .goto (-41), 98, 54), (98, .iinc 1 1, 101, 0), (101, .goto (-59), 104, 42), (104, .return_, 105, 0)])
def M_X9_weigh : wb_MD := (yX9_weigh, cX9_weigh, 8, none, { frames := 4, cells := 0, slots := 0, locals := 104 }, [(0, .iload_n 3, 1, 0), (1, .ifCond .lt 9, 4, 10), (4, .iload_n 3, 5, 0), (5, .bipush 24, 7, 0), (7, .if_icmp .lt 4, 10, 11), (10, .return_, 11, 0), (11, .aload_n 0, 12, 0), (12, .getfield 31, 15, 0), (15, .getfield 38, 18, 0), (18, .iload_n 2, 19, 0), (19, .aload_n 1, 20, 0), (20, .getfield 84, 23, 0), (23, .invokevirtual 50, 26, 0), (26, .istore 4, 28, 0), (28, .aload_n 0, 29, 0), (29, .getfield 31, 32, 0), (32, .getfield 38, 35, 0), (35, .iload_n 2, 36, 0), (36, .iconst 3, 37, 0), (37, .invokevirtual 50, 40, 0), (40, .istore 5, 42, 0), (42, .iload 4, 44, 0), (44, .iload 5, 46, 0), (46, .invokestatic 89, 49, 0), (49, .istore 6, 51, 0), (51, .aload_n 0, 52, 0), (52, .aload_n 1, 53, 0), (53, .iload_n 2, 54, 0), (54, .iload 6, 56, 0), (56, .ineg, 57, 0), (57, .iload 5, 59, 0), (59, .iconst 0, 60, 0), (60, .invokevirtual 94, 63, 0), (63, .aload_n 0, 64, 0), (64, .getfield 25, 67, 0), (67, .iload_n 3, 68, 0), (68, .iconst 0, 69, 0), (69, .iastore, 70, 0), (70, .iconst 0, 71, 0), (71, .istore 7, 73, 0), (73, .iload 7, 75, 0), (75, .iload 6, 77, 0), (77, .iload 5, 79, 0), (79, .iadd, 80, 0), (80, .if_icmp .gt 41, 83, 121), (83, .iload 7, 85, 0), (85, .aload_n 0, 86, 0), (86, .getfield 22, 89, 0), (89, .arraylength, 90, 0), (90, .if_icmp .ge 31, 93, 121), (93, .aload_n 0, 94, 0), (94, .getfield 25, 97, 0), (97, .iload_n 3, 98, 0), (98, .aload_n 0, 99, 0), (99, .getfield 25, 102, 0), (102, .iload_n 3, 103, 0), (103, .iaload, 104, 0), (104, .aload_n 0, 105, 0), (105, .getfield 22, 108, 0), (108, .iload 7, 110, 0), (110, .iaload, 111, 0), (111, .invokestatic 98, 114, 0), (114, .iastore, 115, 0), (115, .iinc 7 1, 118, 0), (118, .goto (-45), 121, 73), (121, .aload_n 0, 122, 0), (122, .aload_n 1, 123, 0), (123, .iload_n 2, 124, 0), (124, .iconst 1, 125, 0), (125, .bipush 9, 127, 0), (127, .iload 5, 129, 0), (129, .invokevirtual 94, 132, 0), (132, .iconst 0, 133, 0), (133, .istore 7, 135, 0), (135, .iload 7, 137, 0), (137, .bipush 9, 139, 0), (139, .if_icmp .ge 28, 142, 167), (142, .aload_n 0, 143, 0), (143, .getfield 28, 146, 0), (146, .iload_n 3, 147, 0), (147, .bipush 9, 149, 0), (149, .imul, 150, 0), (150, .iload 7, 152, 0), (152, .iadd, 153, 0), (153, .aload_n 0, 154, 0), (154, .getfield 22, 157, 0), (157, .iload 7, 159, 0), (159, .iaload, 160, 0), (160, .iastore, 161, 0), (161, .iinc 7 1, 164, 0), (164, .goto (-29), 167, 135), (167, .return_, 168, 0)])
def M_X9_count : wb_MD := (yX9_count, cX9_count, 7, none, { frames := 3, cells := 0, slots := 0, locals := 78 }, [(0, .iconst 0, 1, 0), (1, .istore 6, 3, 0), (3, .iload 6, 5, 0), (5, .aload_n 0, 6, 0), (6, .getfield 22, 9, 0), (9, .arraylength, 10, 0), (10, .if_icmp .ge 17, 13, 27), (13, .aload_n 0, 14, 0), (14, .getfield 22, 17, 0), (17, .iload 6, 19, 0), (19, .iconst 0, 20, 0), (20, .iastore, 21, 0), (21, .iinc 6 1, 24, 0), (24, .goto (-21), 27, 3), (27, .iconst 0, 28, 0), (28, .istore 6, 30, 0), (30, .iload 6, 32, 0), (32, .aload_n 1, 33, 0), (33, .getfield 101, 36, 0), (36, .if_icmp .ge 42, 39, 78), (39, .iload 6, 41, 0), (41, .aload_n 0, 42, 0), (42, .getfield 18, 45, 0), (45, .arraylength, 46, 0), (46, .if_icmp .ge 32, 49, 78), (49, .aload_n 0, 50, 0), (50, .getfield 18, 53, 0), (53, .iload 6, 55, 0), (55, .iaload, 56, 0), (56, .ifCond .le 16, 59, 72), (59, .aload_n 0, 60, 0), (60, .aload_n 1, 61, 0), (61, .iload 6, 63, 0), (63, .iload_n 2, 64, 0), (64, .iload_n 3, 65, 0), (65, .iload 4, 67, 0), (67, .iload 5, 69, 0), (69, .invokevirtual 104, 72, 0), (72, .iinc 6 1, 75, 0), (75, .goto (-45), 78, 30), (78, .iconst 1, 79, 0), (79, .istore 6, 81, 0), (81, .iload 6, 83, 0), (83, .aload_n 0, 84, 0), (84, .getfield 22, 87, 0), (87, .arraylength, 88, 0), (88, .if_icmp .ge 28, 91, 116), (91, .aload_n 0, 92, 0), (92, .getfield 22, 95, 0), (95, .iload 6, 97, 0), (97, .dup2, 98, 0), (98, .iaload, 99, 0), (99, .aload_n 0, 100, 0), (100, .getfield 22, 103, 0), (103, .iload 6, 105, 0), (105, .iconst 1, 106, 0), (106, .isub, 107, 0), (107, .iaload, 108, 0), (108, .iadd, 109, 0), (109, .iastore, 110, 0), (110, .iinc 6 1, 113, 0), (113, .goto (-32), 116, 81), (116, .return_, 117, 0)])
def M_X9_countKey : wb_MD := (yX9_countKey, cX9_countKey, 15, none, { frames := 2, cells := 0, slots := 0, locals := 44 }, [(0, .aload_n 1, 1, 0), (1, .iload_n 2, 2, 0), (2, .iload_n 3, 3, 0), (3, .invokevirtual 108, 6, 0), (6, .istore 7, 8, 0), (8, .aload_n 1, 9, 0), (9, .iload_n 2, 10, 0), (10, .iload_n 3, 11, 0), (11, .iconst 1, 12, 0), (12, .iadd, 13, 0), (13, .invokevirtual 111, 16, 0), (16, .istore 8, 18, 0), (18, .aload_n 1, 19, 0), (19, .iload_n 2, 20, 0), (20, .iload_n 3, 21, 0), (21, .invokevirtual 114, 24, 0), (24, .istore 9, 26, 0), (26, .iload 8, 28, 0), (28, .invokestatic 117, 31, 0), (31, .iload 7, 33, 0), (33, .invokestatic 120, 36, 0), (36, .isub, 37, 0), (37, .iload 9, 39, 0), (39, .iadd, 40, 0), (40, .istore 10, 42, 0), (42, .iload 8, 44, 0), (44, .invokestatic 120, 47, 0), (47, .iload 7, 49, 0), (49, .invokestatic 117, 52, 0), (52, .isub, 53, 0), (53, .iload 9, 55, 0), (55, .iadd, 56, 0), (56, .aload_n 0, 57, 0), (57, .getfield 31, 60, 0), (60, .getfield 38, 63, 0), (63, .aload_n 1, 64, 0), (64, .getfield 84, 67, 0), (67, .iconst 3, 68, 0), (68, .invokevirtual 123, 71, 0), (71, .iadd, 72, 0), (72, .istore 11, 74, 0), (74, .iload 7, 76, 0), (76, .ifCond .lt 13, 79, 89), (79, .iload 8, 81, 0), (81, .ifCond .lt 8, 84, 89), (84, .iload 11, 86, 0), (86, .ifCond .ge 4, 89, 90), (89, .return_, 90, 0), (90, .aload_n 0, 91, 0), (91, .getfield 31, 94, 0), (94, .getfield 38, 97, 0), (97, .iload_n 3, 98, 0), (98, .aload_n 1, 99, 0), (99, .getfield 84, 102, 0), (102, .invokevirtual 50, 105, 0), (105, .istore 12, 107, 0), (107, .iload 4, 109, 0), (109, .iload 10, 111, 0), (111, .iload 6, 113, 0), (113, .isub, 114, 0), (114, .iload 12, 116, 0), (116, .isub, 117, 0), (117, .invokestatic 98, 120, 0), (120, .iload 4, 122, 0), (122, .isub, 123, 0), (123, .istore 13, 125, 0), (125, .iload 5, 127, 0), (127, .iload 11, 129, 0), (129, .iload 6, 131, 0), (131, .iadd, 132, 0), (132, .iload 12, 134, 0), (134, .isub, 135, 0), (135, .invokestatic 89, 138, 0), (138, .iload 4, 140, 0), (140, .isub, 141, 0), (141, .istore 14, 143, 0), (143, .iload 13, 145, 0), (145, .ifCond .lt 56, 148, 201), (148, .iload 13, 150, 0), (150, .iload 14, 152, 0), (152, .if_icmp .gt 49, 155, 201), (155, .iload 14, 157, 0), (157, .iconst 1, 158, 0), (158, .iadd, 159, 0), (159, .aload_n 0, 160, 0), (160, .getfield 22, 163, 0), (163, .arraylength, 164, 0), (164, .if_icmp .ge 37, 167, 201), (167, .aload_n 0, 168, 0), (168, .getfield 22, 171, 0), (171, .iload 13, 173, 0), (173, .dup2, 174, 0), (174, .iaload, 175, 0), (175, .aload_n 0, 176, 0), (176, .getfield 18, 179, 0), (179, .iload_n 2, 180, 0), (180, .iaload, 181, 0), (181, .iadd, 182, 0), (182, .iastore, 183, 0), (183, .aload_n 0, 184, 0), (184, .getfield 22, 187, 0), (187, .iload 14, 189, 0), (189, .iconst 1, 190, 0), (190, .iadd, 191, 0), (191, .dup2, 192, 0), (192, .iaload, 193, 0), (193, .aload_n 0, 194, 0), (194, .getfield 18, 197, 0), (197, .iload_n 2, 198, 0), (198, .iaload, 199, 0), (199, .isub, 200, 0), (200, .iastore, 201, 0), (201, .return_, 202, 0)])
def M_X9_setWeights : wb_MD := (yX9_setWeights, cX9_setWeights, 4, none, { frames := 3, cells := 0, slots := 0, locals := 83 }, [(0, .aload_n 0, 1, 0), (1, .getfield 31, 4, 0), (4, .aload_n 0, 5, 0), (5, .getfield 12, 8, 0), (8, .iconst 1, 9, 0), (9, .iload_n 1, 10, 0), (10, .ishl, 11, 0), (11, .invokevirtual 126, 14, 0), (14, .iconst 0, 15, 0), (15, .istore_n 2, 16, 0), (16, .iload_n 2, 17, 0), (17, .aload_n 0, 18, 0), (18, .getfield 18, 21, 0), (21, .arraylength, 22, 0), (22, .if_icmp .ge 16, 25, 38), (25, .aload_n 0, 26, 0), (26, .getfield 18, 29, 0), (29, .iload_n 2, 30, 0), (30, .iconst 0, 31, 0), (31, .iastore, 32, 0), (32, .iinc 2 1, 35, 0), (35, .goto (-19), 38, 16), (38, .aload_n 0, 39, 0), (39, .getfield 31, 42, 0), (42, .iload_n 1, 43, 0), (43, .invokevirtual 76, 46, 0), (46, .getfield 130, 49, 0), (49, .istore_n 2, 50, 0), (50, .iconst 0, 51, 0), (51, .istore_n 3, 52, 0), (52, .iload_n 3, 53, 0), (53, .bipush 125, 55, 0), (55, .if_icmp .ge 38, 58, 93), (58, .aload_n 0, 59, 0), (59, .getfield 12, 62, 0), (62, .iload_n 3, 63, 0), (63, .invokevirtual 133, 66, 0), (66, .aload_n 0, 67, 0), (67, .getfield 12, 70, 0), (70, .iload_n 3, 71, 0), (71, .invokevirtual 137, 74, 0), (74, .lor, 75, 0), (75, .lconst 0, 76, 0), (76, .lcmp, 77, 0), (77, .ifCond .eq 10, 80, 87), (80, .aload_n 0, 81, 0), (81, .iload_n 3, 82, 0), (82, .iload_n 1, 83, 0), (83, .iload_n 2, 84, 0), (84, .invokevirtual 140, 87, 0), (87, .iinc 3 1, 90, 0), (90, .goto (-38), 93, 52), (93, .return_, 94, 0)])
def M_X9_addWeights : wb_MD := (yX9_addWeights, cX9_addWeights, 11, none, { frames := 2, cells := 0, slots := 0, locals := 53 }, [(0, .aload_n 0, 1, 0), (1, .getfield 31, 4, 0), (4, .getfield 144, 7, 0), (7, .astore 4, 9, 0), (9, .iconst 5, 10, 0), (10, .iload_n 1, 11, 0), (11, .iload_n 2, 12, 0), (12, .invokestatic 148, 15, 0), (15, .imul, 16, 0), (16, .istore 5, 18, 0), (18, .iconst 0, 19, 0), (19, .istore 6, 21, 0), (21, .iload 6, 23, 0), (23, .iconst 5, 24, 0), (24, .if_icmp .ge 126, 27, 150), (27, .aload_n 0, 28, 0), (28, .getfield 12, 31, 0), (31, .iload_n 1, 32, 0), (32, .invokevirtual 133, 35, 0), (35, .aload 4, 37, 0), (37, .iload_n 2, 38, 0), (38, .iload 6, 40, 0), (40, .invokevirtual 151, 43, 0), (43, .land, 44, 0), (44, .lstore 7, 46, 0), (46, .aload_n 0, 47, 0), (47, .getfield 12, 50, 0), (50, .iload_n 1, 51, 0), (51, .invokevirtual 137, 54, 0), (54, .aload 4, 56, 0), (56, .iload_n 2, 57, 0), (57, .iload 6, 59, 0), (59, .invokevirtual 157, 62, 0), (62, .land, 63, 0), (63, .lstore 9, 65, 0), (65, .iload_n 3, 66, 0), (66, .ifCond .ge 43, 69, 109), (69, .iload 5, 71, 0), (71, .iload 6, 73, 0), (73, .iadd, 74, 0), (74, .aload_n 0, 75, 0), (75, .getfield 18, 78, 0), (78, .arraylength, 79, 0), (79, .if_icmp .ge 30, 82, 109), (82, .aload_n 0, 83, 0), (83, .getfield 18, 86, 0), (86, .iload 5, 88, 0), (88, .iload 6, 90, 0), (90, .iadd, 91, 0), (91, .dup2, 92, 0), (92, .iaload, 93, 0), (93, .lload 7, 95, 0), (95, .invokestatic 160, 98, 0), (98, .lload 9, 100, 0), (100, .invokestatic 160, 103, 0), (103, .iadd, 104, 0), (104, .iadd, 105, 0), (105, .iastore, 106, 0), (106, .goto 38, 109, 144), (109, .iload_n 3, 110, 0), (110, .ifCond .lt 34, 113, 144), (113, .lload 7, 115, 0), (115, .lload 9, 117, 0), (117, .lor, 118, 0), (118, .lconst 0, 119, 0), (119, .lcmp, 120, 0), (120, .ifCond .eq 24, 123, 144), (123, .aload_n 0, 124, 0), (124, .iload 5, 126, 0), (126, .iload 6, 128, 0), (128, .iadd, 129, 0), (129, .iconst 5, 130, 0), (130, .iload_n 1, 131, 0), (131, .iload_n 3, 132, 0), (132, .invokestatic 148, 135, 0), (135, .imul, 136, 0), (136, .iload_n 3, 137, 0), (137, .lload 7, 139, 0), (139, .lload 9, 141, 0), (141, .invokevirtual 166, 144, 0), (144, .iinc 6 1, 147, 0), (147, .goto (-126), 150, 21), (150, .return_, 151, 0)])
def M_X9_addGuestWeights : wb_MD := (yX9_addGuestWeights, cX9_addGuestWeights, 11, none, { frames := 1, cells := 0, slots := 0, locals := 23 }, [(0, .aload_n 0, 1, 0), (1, .getfield 31, 4, 0), (4, .getfield 144, 7, 0), (7, .astore 8, 9, 0), (9, .iconst 0, 10, 0), (10, .istore 9, 12, 0), (12, .iload 9, 14, 0), (14, .iconst 5, 15, 0), (15, .if_icmp .ge 74, 18, 89), (18, .iload_n 1, 19, 0), (19, .bipush 25, 21, 0), (21, .iload_n 2, 22, 0), (22, .iload 9, 24, 0), (24, .iadd, 25, 0), (25, .imul, 26, 0), (26, .iadd, 27, 0), (27, .istore 10, 29, 0), (29, .iload 10, 31, 0), (31, .ifCond .lt 52, 34, 83), (34, .iload 10, 36, 0), (36, .aload_n 0, 37, 0), (37, .getfield 18, 40, 0), (40, .arraylength, 41, 0), (41, .if_icmp .ge 42, 44, 83), (44, .aload_n 0, 45, 0), (45, .getfield 18, 48, 0), (48, .iload 10, 50, 0), (50, .dup2, 51, 0), (51, .iaload, 52, 0), (52, .lload 4, 54, 0), (54, .aload 8, 56, 0), (56, .iload_n 3, 57, 0), (57, .iload 9, 59, 0), (59, .invokevirtual 151, 62, 0), (62, .land, 63, 0), (63, .invokestatic 160, 66, 0), (66, .lload 6, 68, 0), (68, .aload 8, 70, 0), (70, .iload_n 3, 71, 0), (71, .iload 9, 73, 0), (73, .invokevirtual 157, 76, 0), (76, .land, 77, 0), (77, .invokestatic 160, 80, 0), (80, .iadd, 81, 0), (81, .iadd, 82, 0), (82, .iastore, 83, 0), (83, .iinc 9 1, 86, 0), (86, .goto (-74), 89, 12), (89, .return_, 90, 0)])
def M_X10_init : wb_MD := (yX10_init, cX10_init, 2, none, { frames := 3, cells := 51, slots := 73036, locals := 70 }, [(0, .aload_n 0, 1, 0), (1, .invokespecial 3, 4, 0), (4, .aload_n 0, 5, 0), (5, .new 9, 8, 0), (8, .dup, 9, 0), (9, .invokespecial 11, 12, 0), (12, .putfield 12, 15, 0), (15, .aload_n 0, 16, 0), (16, .new 18, 19, 0), (19, .dup, 20, 0), (20, .invokespecial 20, 23, 0), (23, .putfield 21, 26, 0), (26, .aload_n 0, 27, 0), (27, .new 25, 30, 0), (30, .dup, 31, 0), (31, .invokespecial 27, 34, 0), (34, .putfield 28, 37, 0), (37, .aload_n 0, 38, 0), (38, .new 25, 41, 0), (41, .dup, 42, 0), (42, .invokespecial 27, 45, 0), (45, .putfield 32, 48, 0), (48, .aload_n 0, 49, 0), (49, .iconst 2, 50, 0), (50, .newarray .long, 52, 0), (52, .putfield 35, 55, 0), (55, .aload_n 0, 56, 0), (56, .iconst 2, 57, 0), (57, .newarray .long, 59, 0), (59, .putfield 39, 62, 0), (62, .aload_n 0, 63, 0), (63, .iconst (-1), 64, 0), (64, .putfield 42, 67, 0), (67, .aload_n 0, 68, 0), (68, .aload_n 1, 69, 0), (69, .putfield 46, 72, 0), (72, .aload_n 0, 73, 0), (73, .iconst 3, 74, 0), (74, .anewarray 50, 77, 0), (77, .dup, 78, 0), (78, .iconst 0, 79, 0), (79, .new 50, 82, 0), (82, .dup, 83, 0), (83, .aload_n 0, 84, 0), (84, .getfield 12, 87, 0), (87, .bipush 25, 89, 0), (89, .invokespecial 52, 92, 0), (92, .aastore, 93, 0), (93, .dup, 94, 0), (94, .iconst 1, 95, 0), (95, .new 50, 98, 0), (98, .dup, 99, 0), (99, .aload_n 0, 100, 0), (100, .getfield 12, 103, 0), (103, .bipush 25, 105, 0), (105, .invokespecial 52, 108, 0), (108, .aastore, 109, 0), (109, .dup, 110, 0), (110, .iconst 2, 111, 0), (111, .new 50, 114, 0), (114, .dup, 115, 0), (115, .aload_n 0, 116, 0), (116, .getfield 12, 119, 0), (119, .bipush 25, 121, 0), (121, .invokespecial 52, 124, 0), (124, .aastore, 125, 0), (125, .putfield 55, 128, 0), (128, .aload_n 0, 129, 0), (129, .new 50, 132, 0), (132, .dup, 133, 0), (133, .aload_n 0, 134, 0), (134, .getfield 12, 137, 0), (137, .sipush 625, 140, 0), (140, .invokespecial 52, 143, 0), (143, .putfield 59, 146, 0), (146, .return_, 147, 0)])
def M_X10_course : wb_MD := (yX10_course, cX10_course, 2, (some (.object "WorkedBack$Course")), { frames := 1, cells := 0, slots := 0, locals := 20 }, [(0, .iload_n 1, 1, 0), (1, .aload_n 0, 2, 0), (2, .getfield 42, 5, 0), (5, .if_icmp .eq 10, 8, 15), (8, .iload_n 1, 9, 0), (9, .invokestatic 63, 12, 0), (12, .ifCond .ne 10, 15, 22), (15, .aload_n 0, 16, 0), (16, .getfield 59, 19, 0), (19, .goto 9, 22, 28), (22, .aload_n 0, 23, 0), (23, .getfield 55, 26, 0), (26, .iload_n 1, 27, 0), (27, .aaload, 28, 0), (28, .areturn, 29, 0)])
def M_X10_update : wb_MD := (yX10_update, cX10_update, 2, none, { frames := 5, cells := 0, slots := 0, locals := 117 }, [(0, .aload_n 0, 1, 0), (1, .getfield 67, 4, 0), (4, .aload_n 0, 5, 0), (5, .getfield 46, 8, 0), (8, .getfield 70, 11, 0), (11, .if_icmp .ne 4, 14, 15), (14, .return_, 15, 0), (15, .aload_n 0, 16, 0), (16, .aload_n 0, 17, 0), (17, .getfield 46, 20, 0), (20, .getfield 70, 23, 0), (23, .putfield 67, 26, 0), (26, .aload_n 0, 27, 0), (27, .aload_n 0, 28, 0), (28, .getfield 46, 31, 0), (31, .aload_n 0, 32, 0), (32, .getfield 46, 35, 0), (35, .getfield 73, 38, 0), (38, .invokevirtual 76, 41, 0), (41, .ifCond .ge 7, 44, 48), (44, .iconst (-1), 45, 0), (45, .goto 10, 48, 55), (48, .aload_n 0, 49, 0), (49, .getfield 46, 52, 0), (52, .getfield 73, 55, 0), (55, .putfield 42, 58, 0), (58, .iconst 0, 59, 0), (59, .istore_n 1, 60, 0), (60, .iload_n 1, 61, 0), (61, .iconst 3, 62, 0), (62, .if_icmp .ge 30, 65, 92), (65, .aload_n 0, 66, 0), (66, .iload_n 1, 67, 0), (67, .invokevirtual 80, 70, 0), (70, .aload_n 0, 71, 0), (71, .getfield 46, 74, 0), (74, .iload_n 1, 75, 0), (75, .aload_n 0, 76, 0), (76, .getfield 46, 79, 0), (79, .iload_n 1, 80, 0), (80, .invokevirtual 76, 83, 0), (83, .invokevirtual 84, 86, 0), (86, .iinc 1 1, 89, 0), (89, .goto (-29), 92, 60), (92, .aload_n 0, 93, 0), (93, .invokevirtual 88, 96, 0), (96, .aload_n 0, 97, 0), (97, .aload_n 0, 98, 0), (98, .getfield 28, 101, 0), (101, .iconst 0, 102, 0), (102, .invokevirtual 91, 105, 0), (105, .aload_n 0, 106, 0), (106, .invokevirtual 95, 109, 0), (109, .return_, 110, 0)])
def M_X10_strain : wb_MD := (yX10_strain, cX10_strain, 2, none, { frames := 3, cells := 0, slots := 0, locals := 72 }, [(0, .aload_n 0, 1, 0), (1, .getfield 98, 4, 0), (4, .aload_n 0, 5, 0), (5, .getfield 67, 8, 0), (8, .if_icmp .ne 4, 11, 12), (11, .return_, 12, 0), (12, .aload_n 0, 13, 0), (13, .aload_n 0, 14, 0), (14, .getfield 67, 17, 0), (17, .putfield 98, 20, 0), (20, .iconst 0, 21, 0), (21, .istore_n 1, 22, 0), (22, .iload_n 1, 23, 0), (23, .iconst 3, 24, 0), (24, .if_icmp .ge 35, 27, 59), (27, .aload_n 0, 28, 0), (28, .getfield 21, 31, 0), (31, .aload_n 0, 32, 0), (32, .getfield 46, 35, 0), (35, .iload_n 1, 36, 0), (36, .iconst 0, 37, 0), (37, .iconst 0, 38, 0), (38, .invokevirtual 101, 41, 0), (41, .aload_n 0, 42, 0), (42, .iload_n 1, 43, 0), (43, .invokevirtual 80, 46, 0), (46, .aload_n 0, 47, 0), (47, .getfield 21, 50, 0), (50, .invokevirtual 104, 53, 0), (53, .iinc 1 1, 56, 0), (56, .goto (-34), 59, 22), (59, .return_, 60, 0)])
def M_X10_firstBy : wb_MD := (yX10_firstBy, cX10_firstBy, 5, (some .int), { frames := 4, cells := 0, slots := 0, locals := 90 }, [(0, .aload_n 0, 1, 0), (1, .iconst 0, 2, 0), (2, .putfield 98, 5, 0), (5, .aload_n 0, 6, 0), (6, .getfield 32, 9, 0), (9, .aload_n 0, 10, 0), (10, .getfield 46, 13, 0), (13, .getfield 107, 16, 0), (16, .invokevirtual 110, 19, 0), (19, .iconst 1, 20, 0), (20, .istore_n 3, 21, 0), (21, .iload_n 3, 22, 0), (22, .iconst 3, 23, 0), (23, .if_icmp .gt 74, 26, 97), (26, .aload_n 0, 27, 0), (27, .getfield 32, 30, 0), (30, .iconst 0, 31, 0), (31, .invokevirtual 114, 34, 0), (34, .ifCond .lt 63, 37, 97), (37, .aload_n 0, 38, 0), (38, .getfield 42, 41, 0), (41, .iload_n 3, 42, 0), (42, .iadd, 43, 0), (43, .iconst 3, 44, 0), (44, .irem, 45, 0), (45, .istore 4, 47, 0), (47, .aload_n 0, 48, 0), (48, .getfield 21, 51, 0), (51, .aload_n 0, 52, 0), (52, .getfield 46, 55, 0), (55, .iload 4, 57, 0), (57, .iload_n 1, 58, 0), (58, .iload_n 2, 59, 0), (59, .invokevirtual 101, 62, 0), (62, .aload_n 0, 63, 0), (63, .iload 4, 65, 0), (65, .invokevirtual 80, 68, 0), (68, .aload_n 0, 69, 0), (69, .getfield 21, 72, 0), (72, .invokevirtual 104, 75, 0), (75, .aload_n 0, 76, 0), (76, .iload 4, 78, 0), (78, .invokevirtual 80, 81, 0), (81, .getfield 117, 84, 0), (84, .aload_n 0, 85, 0), (85, .getfield 32, 88, 0), (88, .invokevirtual 121, 91, 0), (91, .iinc 3 1, 94, 0), (94, .goto (-73), 97, 21), (97, .aload_n 0, 98, 0), (98, .getfield 32, 101, 0), (101, .iconst 0, 102, 0), (102, .invokevirtual 114, 105, 0), (105, .ireturn, 106, 0)])
def M_X10_sift : wb_MD := (yX10_sift, cX10_sift, 4, none, { frames := 2, cells := 0, slots := 0, locals := 48 }, [(0, .aload_n 1, 1, 0), (1, .aload_n 0, 2, 0), (2, .getfield 46, 5, 0), (5, .getfield 107, 8, 0), (8, .invokevirtual 110, 11, 0), (11, .iconst 0, 12, 0), (12, .istore_n 3, 13, 0), (13, .iload_n 3, 14, 0), (14, .iconst 3, 15, 0), (15, .if_icmp .ge 29, 18, 44), (18, .iload_n 2, 19, 0), (19, .iload_n 3, 20, 0), (20, .ishr, 21, 0), (21, .iconst 1, 22, 0), (22, .iand, 23, 0), (23, .ifCond .ne 15, 26, 38), (26, .aload_n 0, 27, 0), (27, .iload_n 3, 28, 0), (28, .invokevirtual 80, 31, 0), (31, .getfield 117, 34, 0), (34, .aload_n 1, 35, 0), (35, .invokevirtual 121, 38, 0), (38, .iinc 3 1, 41, 0), (41, .goto (-28), 44, 13), (44, .return_, 45, 0)])
def M_X10_chart : wb_MD := (yX10_chart, cX10_chart, 2, none, { frames := 3, cells := 0, slots := 0, locals := 70 }, [(0, .aload_n 0, 1, 0), (1, .getfield 125, 4, 0), (4, .aload_n 0, 5, 0), (5, .getfield 67, 8, 0), (8, .if_icmp .ne 4, 11, 12), (11, .return_, 12, 0), (12, .aload_n 0, 13, 0), (13, .aload_n 0, 14, 0), (14, .getfield 67, 17, 0), (17, .putfield 125, 20, 0), (20, .iconst 0, 21, 0), (21, .istore_n 1, 22, 0), (22, .iload_n 1, 23, 0), (23, .iconst 3, 24, 0), (24, .if_icmp .ge 35, 27, 59), (27, .aload_n 0, 28, 0), (28, .getfield 21, 31, 0), (31, .aload_n 0, 32, 0), (32, .getfield 46, 35, 0), (35, .iload_n 1, 36, 0), (36, .iconst 0, 37, 0), (37, .iconst 0, 38, 0), (38, .invokevirtual 101, 41, 0), (41, .aload_n 0, 42, 0), (42, .iload_n 1, 43, 0), (43, .invokevirtual 80, 46, 0), (46, .aload_n 0, 47, 0), (47, .getfield 21, 50, 0), (50, .invokevirtual 128, 53, 0), (53, .iinc 1 1, 56, 0), (56, .goto (-34), 59, 22), (59, .return_, 60, 0)])
def M_X10_first : wb_MD := (yX10_first, cX10_first, 1, (some .int), { frames := 4, cells := 0, slots := 0, locals := 90 }, [(0, .aload_n 0, 1, 0), (1, .getfield 28, 4, 0), (4, .iconst 0, 5, 0), (5, .invokevirtual 114, 8, 0), (8, .ireturn, 9, 0)])
def M_X10_goesTill : wb_MD := (yX10_goesTill, cX10_goesTill, 5, (some .int), { frames := 4, cells := 0, slots := 0, locals := 91 }, [(0, .aload_n 0, 1, 0), (1, .getfield 21, 4, 0), (4, .aload_n 0, 5, 0), (5, .getfield 46, 8, 0), (8, .iload_n 2, 9, 0), (9, .iconst 0, 10, 0), (10, .iconst 0, 11, 0), (11, .invokevirtual 101, 14, 0), (14, .aload_n 0, 15, 0), (15, .getfield 21, 18, 0), (18, .invokevirtual 131, 21, 0), (21, .iconst 0, 22, 0), (22, .istore 4, 24, 0), (24, .iload 4, 26, 0), (26, .iload_n 3, 27, 0), (27, .if_icmp .gt 42, 30, 69), (30, .iload 4, 32, 0), (32, .bipush 8, 34, 0), (34, .if_icmp .ge 35, 37, 69), (37, .aload_n 0, 38, 0), (38, .getfield 21, 41, 0), (41, .iload 4, 43, 0), (43, .aload_n 0, 44, 0), (44, .getfield 46, 47, 0), (47, .iload_n 1, 48, 0), (48, .iload 4, 50, 0), (50, .iload_n 2, 51, 0), (51, .invokevirtual 134, 54, 0), (54, .invokevirtual 138, 57, 0), (57, .ifCond .ne 6, 60, 63), (60, .iload 4, 62, 0), (62, .ireturn, 63, 0), (63, .iinc 4 1, 66, 0), (66, .goto (-42), 69, 24), (69, .iload_n 3, 70, 0), (70, .iconst 1, 71, 0), (71, .iadd, 72, 0), (72, .ireturn, 73, 0)])
def M_X10_judged : wb_MD := (yX10_judged, cX10_judged, 6, (some .int), { frames := 5, cells := 0, slots := 0, locals := 115 }, [(0, .iconst (-1), 1, 0), (1, .istore_n 2, 2, 0), (2, .aload_n 0, 3, 0), (3, .getfield 46, 6, 0), (6, .getfield 142, 9, 0), (9, .istore_n 3, 10, 0), (10, .iconst 0, 11, 0), (11, .istore 4, 13, 0), (13, .iload 4, 15, 0), (15, .iconst 3, 16, 0), (16, .if_icmp .ge 38, 19, 54), (19, .aload_n 0, 20, 0), (20, .iload_n 1, 21, 0), (21, .iload 4, 23, 0), (23, .iload_n 3, 24, 0), (24, .iconst 1, 25, 0), (25, .isub, 26, 0), (26, .invokevirtual 145, 29, 0), (29, .istore 5, 31, 0), (31, .iload 5, 33, 0), (33, .iload_n 3, 34, 0), (34, .if_icmp .ge 14, 37, 48), (37, .iload 5, 39, 0), (39, .istore_n 3, 40, 0), (40, .iconst 3, 41, 0), (41, .iload 5, 43, 0), (43, .imul, 44, 0), (44, .iload 4, 46, 0), (46, .iadd, 47, 0), (47, .istore_n 2, 48, 0), (48, .iinc 4 1, 51, 0), (51, .goto (-38), 54, 13), (54, .iload_n 2, 55, 0), (55, .ireturn, 56, 0)])
def M_X10_setMade : wb_MD := (yX10_setMade, cX10_setMade, 6, none, { frames := 1, cells := 0, slots := 0, locals := 21 }, [(0, .iconst 0, 1, 0), (1, .istore_n 1, 2, 0), (2, .iload_n 1, 3, 0), (3, .iconst 2, 4, 0), (4, .if_icmp .ge 23, 7, 27), (7, .aload_n 0, 8, 0), (8, .getfield 35, 11, 0), (11, .iload_n 1, 12, 0), (12, .lconst 0, 13, 0), (13, .lastore, 14, 0), (14, .aload_n 0, 15, 0), (15, .getfield 39, 18, 0), (18, .iload_n 1, 19, 0), (19, .lconst 0, 20, 0), (20, .lastore, 21, 0), (21, .iinc 1 1, 24, 0), (24, .goto (-22), 27, 2), (27, .iconst 0, 28, 0), (28, .istore_n 1, 29, 0), (29, .iload_n 1, 30, 0), (30, .bipush 125, 32, 0), (32, .if_icmp .ge 103, 35, 135), (35, .aload_n 0, 36, 0), (36, .getfield 28, 39, 0), (39, .iload_n 1, 40, 0), (40, .invokevirtual 148, 43, 0), (43, .lstore_n 2, 44, 0), (44, .aload_n 0, 45, 0), (45, .getfield 28, 48, 0), (48, .iload_n 1, 49, 0), (49, .invokevirtual 152, 52, 0), (52, .lstore 4, 54, 0), (54, .aload_n 0, 55, 0), (55, .getfield 35, 58, 0), (58, .iconst 1, 59, 0), (59, .dup2, 60, 0), (60, .laload, 61, 0), (61, .lload_n 2, 62, 0), (62, .lor, 63, 0), (63, .lastore, 64, 0), (64, .aload_n 0, 65, 0), (65, .getfield 39, 68, 0), (68, .iconst 1, 69, 0), (69, .dup2, 70, 0), (70, .laload, 71, 0), (71, .lload 4, 73, 0), (73, .lor, 74, 0), (74, .lastore, 75, 0), (75, .lload_n 2, 76, 0), (76, .lload 4, 78, 0), (78, .lor, 79, 0), (79, .lconst 0, 80, 0), (80, .lcmp, 81, 0), (81, .ifCond .eq 24, 84, 105), (84, .iload_n 1, 85, 0), (85, .bipush 64, 87, 0), (87, .if_icmp .ge 18, 90, 105), (90, .aload_n 0, 91, 0), (91, .getfield 35, 94, 0), (94, .iconst 0, 95, 0), (95, .dup2, 96, 0), (96, .laload, 97, 0), (97, .lconst 1, 98, 0), (98, .iload_n 1, 99, 0), (99, .lshl, 100, 0), (100, .lor, 101, 0), (101, .lastore, 102, 0), (102, .goto 27, 105, 129), (105, .lload_n 2, 106, 0), (106, .lload 4, 108, 0), (108, .lor, 109, 0), (109, .lconst 0, 110, 0), (110, .lcmp, 111, 0), (111, .ifCond .eq 18, 114, 129), (114, .aload_n 0, 115, 0), (115, .getfield 39, 118, 0), (118, .iconst 0, 119, 0), (119, .dup2, 120, 0), (120, .laload, 121, 0), (121, .lconst 1, 122, 0), (122, .iload_n 1, 123, 0), (123, .bipush 64, 125, 0), (125, .isub, 126, 0), (126, .lshl, 127, 0), (127, .lor, 128, 0), (128, .lastore, 129, 0), (129, .iinc 1 1, 132, 0), (132, .goto (-103), 135, 29), (135, .return_, 136, 0)])
def M_X10_amounts : wb_MD := (yX10_amounts, cX10_amounts, 9, (some .int), { frames := 1, cells := 0, slots := 0, locals := 23 }, [(0, .iconst 0, 1, 0), (1, .istore_n 3, 2, 0), (2, .iconst 0, 3, 0), (3, .istore 4, 5, 0), (5, .iload_n 1, 6, 0), (6, .invokestatic 155, 9, 0), (9, .ifCond .eq 74, 12, 83), (12, .iload 4, 14, 0), (14, .iconst 5, 15, 0), (15, .if_icmp .ge 68, 18, 83), (18, .aload_n 0, 19, 0), (19, .getfield 35, 22, 0), (22, .iload_n 1, 23, 0), (23, .laload, 24, 0), (24, .aload_n 0, 25, 0), (25, .getfield 12, 28, 0), (28, .iload_n 2, 29, 0), (29, .iload 4, 31, 0), (31, .invokevirtual 158, 34, 0), (34, .land, 35, 0), (35, .lstore 5, 37, 0), (37, .aload_n 0, 38, 0), (38, .getfield 39, 41, 0), (41, .iload_n 1, 42, 0), (42, .laload, 43, 0), (43, .aload_n 0, 44, 0), (44, .getfield 12, 47, 0), (47, .iload_n 2, 48, 0), (48, .iload 4, 50, 0), (50, .invokevirtual 162, 53, 0), (53, .land, 54, 0), (54, .lstore 7, 56, 0), (56, .iload_n 3, 57, 0), (57, .lload 5, 59, 0), (59, .lload 7, 61, 0), (61, .lor, 62, 0), (62, .lconst 0, 63, 0), (63, .lcmp, 64, 0), (64, .ifCond .eq 10, 67, 74), (67, .iconst 1, 68, 0), (68, .iload 4, 70, 0), (70, .ishl, 71, 0), (71, .goto 4, 74, 75), (74, .iconst 0, 75, 0), (75, .ior, 76, 0), (76, .istore_n 3, 77, 0), (77, .iinc 4 1, 80, 0), (80, .goto (-75), 83, 5), (83, .iload_n 3, 84, 0), (84, .ireturn, 85, 0)])
def M_X10_inEvery : wb_MD := (yX10_inEvery, cX10_inEvery, 4, (some .int), { frames := 2, cells := 0, slots := 0, locals := 51 }, [(0, .iconst 0, 1, 0), (1, .istore_n 1, 2, 0), (2, .iconst 0, 3, 0), (3, .istore_n 2, 4, 0), (4, .iload_n 2, 5, 0), (5, .bipush 6, 7, 0), (7, .if_icmp .ge 36, 10, 43), (10, .aload_n 0, 11, 0), (11, .iload_n 2, 12, 0), (12, .iconst 3, 13, 0), (13, .idiv, 14, 0), (14, .iload_n 2, 15, 0), (15, .iconst 3, 16, 0), (16, .irem, 17, 0), (17, .invokevirtual 165, 20, 0), (20, .istore_n 3, 21, 0), (21, .iload_n 1, 22, 0), (22, .iload_n 3, 23, 0), (23, .iconst 1, 24, 0), (24, .iand, 25, 0), (25, .ifCond .ne 9, 28, 34), (28, .iconst 1, 29, 0), (29, .iload_n 2, 30, 0), (30, .ishl, 31, 0), (31, .goto 4, 34, 35), (34, .iconst 0, 35, 0), (35, .ior, 36, 0), (36, .istore_n 1, 37, 0), (37, .iinc 2 1, 40, 0), (40, .goto (-36), 43, 4), (43, .iload_n 1, 44, 0), (44, .ireturn, 45, 0)])
def M_X10_inNone : wb_MD := (yX10_inNone, cX10_inNone, 4, (some .int), { frames := 2, cells := 0, slots := 0, locals := 51 }, [(0, .iconst 0, 1, 0), (1, .istore_n 1, 2, 0), (2, .iconst 0, 3, 0), (3, .istore_n 2, 4, 0), (4, .iload_n 2, 5, 0), (5, .bipush 6, 7, 0), (7, .if_icmp .ge 35, 10, 42), (10, .aload_n 0, 11, 0), (11, .iload_n 2, 12, 0), (12, .iconst 3, 13, 0), (13, .idiv, 14, 0), (14, .iload_n 2, 15, 0), (15, .iconst 3, 16, 0), (16, .irem, 17, 0), (17, .invokevirtual 165, 20, 0), (20, .istore_n 3, 21, 0), (21, .iload_n 1, 22, 0), (22, .iload_n 3, 23, 0), (23, .iconst 1, 24, 0), (24, .if_icmp .ne 9, 27, 33), (27, .iconst 1, 28, 0), (28, .iload_n 2, 29, 0), (29, .ishl, 30, 0), (30, .goto 4, 33, 34), (33, .iconst 0, 34, 0), (34, .ior, 35, 0), (35, .istore_n 1, 36, 0), (36, .iinc 2 1, 39, 0), (39, .goto (-35), 42, 4), (42, .iload_n 1, 43, 0), (43, .ireturn, 44, 0)])
def M_X10_plainest : wb_MD := (yX10_plainest, cX10_plainest, 7, (some .int), { frames := 3, cells := 0, slots := 0, locals := 68 }, [(0, .iconst (-1), 1, 0), (1, .istore_n 1, 2, 0), (2, .bipush 7, 4, 0), (4, .istore_n 2, 5, 0), (5, .iconst 0, 6, 0), (6, .istore_n 3, 7, 0), (7, .iload_n 3, 8, 0), (8, .bipush 125, 10, 0), (10, .if_icmp .ge 67, 13, 77), (13, .iload_n 3, 14, 0), (14, .invokestatic 169, 17, 0), (17, .istore 4, 19, 0), (19, .iconst 0, 20, 0), (20, .istore 5, 22, 0), (22, .iload 5, 24, 0), (24, .iconst 3, 25, 0), (25, .if_icmp .gt 46, 28, 71), (28, .iload 4, 30, 0), (30, .iload 5, 32, 0), (32, .iadd, 33, 0), (33, .iload_n 2, 34, 0), (34, .if_icmp .ge 37, 37, 71), (37, .aload_n 0, 38, 0), (38, .iload_n 3, 39, 0), (39, .iload 5, 41, 0), (41, .invokevirtual 172, 44, 0), (44, .istore 6, 46, 0), (46, .iload 6, 48, 0), (48, .ifCond .lt 17, 51, 65), (51, .iload 4, 53, 0), (53, .iload 5, 55, 0), (55, .iadd, 56, 0), (56, .istore_n 2, 57, 0), (57, .iload_n 3, 58, 0), (58, .bipush 125, 60, 0), (60, .imul, 61, 0), (61, .iload 6, 63, 0), (63, .iadd, 64, 0), (64, .istore_n 1, 65, 0), (65, .iinc 5 1, 68, 0), (68, .goto (-46), 71, 22), (71, .iinc 3 1, 74, 0), (74, .goto (-67), 77, 7), (77, .iload_n 1, 78, 0), (78, .ireturn, 79, 0)])
def M_X10_firstWith : wb_MD := (yX10_firstWith, cX10_firstWith, 7, (some .int), { frames := 2, cells := 0, slots := 0, locals := 42 }, [(0, .aload_n 0, 1, 0), (1, .getfield 28, 4, 0), (4, .iload_n 1, 5, 0), (5, .invokevirtual 148, 8, 0), (8, .aload_n 0, 9, 0), (9, .getfield 12, 12, 0), (12, .iload_n 2, 13, 0), (13, .invokevirtual 175, 16, 0), (16, .land, 17, 0), (17, .lstore_n 3, 18, 0), (18, .aload_n 0, 19, 0), (19, .getfield 28, 22, 0), (22, .iload_n 1, 23, 0), (23, .invokevirtual 152, 26, 0), (26, .aload_n 0, 27, 0), (27, .getfield 12, 30, 0), (30, .iload_n 2, 31, 0), (31, .invokevirtual 178, 34, 0), (34, .land, 35, 0), (35, .lstore 5, 37, 0), (37, .lload_n 3, 38, 0), (38, .lconst 0, 39, 0), (39, .lcmp, 40, 0), (40, .ifCond .eq 10, 43, 50), (43, .lload_n 3, 44, 0), (44, .invokestatic 181, 47, 0), (47, .goto 22, 50, 69), (50, .lload 5, 52, 0), (52, .lconst 0, 53, 0), (53, .lcmp, 54, 0), (54, .ifCond .eq 14, 57, 68), (57, .bipush 64, 59, 0), (59, .lload 5, 61, 0), (61, .invokestatic 181, 64, 0), (64, .iadd, 65, 0), (65, .goto 4, 68, 69), (68, .iconst (-1), 69, 0), (69, .ireturn, 70, 0)])
def M_X10_endOfPrices : wb_MD := (yX10_endOfPrices, cX10_endOfPrices, 9, (some .int), { frames := 2, cells := 0, slots := 0, locals := 47 }, [(0, .iconst (-1), 1, 0), (1, .istore 4, 3, 0), (3, .iconst 0, 4, 0), (4, .istore 5, 6, 0), (6, .iload_n 1, 7, 0), (7, .invokestatic 155, 10, 0), (10, .ifCond .eq 103, 13, 113), (13, .iload 5, 15, 0), (15, .bipush 125, 17, 0), (17, .if_icmp .ge 96, 20, 113), (20, .iload 5, 22, 0), (22, .bipush 64, 24, 0), (24, .if_icmp .ge 15, 27, 39), (27, .aload_n 0, 28, 0), (28, .getfield 35, 31, 0), (31, .iload_n 1, 32, 0), (32, .laload, 33, 0), (33, .iload 5, 35, 0), (35, .lushr, 36, 0), (36, .goto 15, 39, 51), (39, .aload_n 0, 40, 0), (40, .getfield 39, 43, 0), (43, .iload_n 1, 44, 0), (44, .laload, 45, 0), (45, .iload 5, 47, 0), (47, .bipush 64, 49, 0), (49, .isub, 50, 0), (50, .lushr, 51, 0), (51, .lstore 6, 53, 0), (53, .lload 6, 55, 0), (55, .lconst 1, 56, 0), (56, .land, 57, 0), (57, .lconst 0, 58, 0), (58, .lcmp, 59, 0), (59, .ifCond .eq 48, 62, 107), (62, .aload_n 0, 63, 0), (63, .getfield 46, 66, 0), (66, .iload 5, 68, 0), (68, .iload_n 2, 69, 0), (69, .invokevirtual 185, 72, 0), (72, .istore 8, 74, 0), (74, .iload 4, 76, 0), (76, .ifCond .ge 8, 79, 84), (79, .iload 8, 81, 0), (81, .goto 24, 84, 105), (84, .iload_n 3, 85, 0), (85, .ifCond .ne 13, 88, 98), (88, .iload 4, 90, 0), (90, .iload 8, 92, 0), (92, .invokestatic 188, 95, 0), (95, .goto 10, 98, 105), (98, .iload 4, 100, 0), (100, .iload 8, 102, 0), (102, .invokestatic 193, 105, 0), (105, .istore 4, 107, 0), (107, .iinc 5 1, 110, 0), (110, .goto (-104), 113, 6), (113, .iload 4, 115, 0), (115, .ireturn, 116, 0)])
def M_X10_pairs : wb_MD := (yX10_pairs, cX10_pairs, 9, (some .int), { frames := 1, cells := 0, slots := 0, locals := 23 }, [(0, .iconst 0, 1, 0), (1, .istore_n 2, 2, 0), (2, .iconst 0, 3, 0), (3, .istore_n 3, 4, 0), (4, .iload_n 3, 5, 0), (5, .bipush 125, 7, 0), (7, .if_icmp .ge 95, 10, 102), (10, .iconst 0, 11, 0), (11, .istore 4, 13, 0), (13, .iload 4, 15, 0), (15, .iconst 5, 16, 0), (16, .if_icmp .ge 80, 19, 96), (19, .aload_n 0, 20, 0), (20, .getfield 28, 23, 0), (23, .iload_n 3, 24, 0), (24, .invokevirtual 148, 27, 0), (27, .aload_n 0, 28, 0), (28, .getfield 12, 31, 0), (31, .iload_n 1, 32, 0), (32, .iload 4, 34, 0), (34, .invokevirtual 158, 37, 0), (37, .land, 38, 0), (38, .lstore 5, 40, 0), (40, .aload_n 0, 41, 0), (41, .getfield 28, 44, 0), (44, .iload_n 3, 45, 0), (45, .invokevirtual 152, 48, 0), (48, .aload_n 0, 49, 0), (49, .getfield 12, 52, 0), (52, .iload_n 1, 53, 0), (53, .iload 4, 55, 0), (55, .invokevirtual 162, 58, 0), (58, .land, 59, 0), (59, .lstore 7, 61, 0), (61, .iload_n 2, 62, 0), (62, .lload 5, 64, 0), (64, .lload 7, 66, 0), (66, .lor, 67, 0), (67, .lconst 0, 68, 0), (68, .lcmp, 69, 0), (69, .ifCond .eq 18, 72, 87), (72, .iconst 1, 73, 0), (73, .iconst 5, 74, 0), (74, .iload_n 3, 75, 0), (75, .iload_n 1, 76, 0), (76, .invokestatic 196, 79, 0), (79, .imul, 80, 0), (80, .iload 4, 82, 0), (82, .iadd, 83, 0), (83, .ishl, 84, 0), (84, .goto 4, 87, 88), (87, .iconst 0, 88, 0), (88, .ior, 89, 0), (89, .istore_n 2, 90, 0), (90, .iinc 4 1, 93, 0), (93, .goto (-80), 96, 13), (96, .iinc 3 1, 99, 0), (99, .goto (-95), 102, 4), (102, .iload_n 2, 103, 0), (103, .ireturn, 104, 0)])
def M_X11_init : wb_MD := (yX11_init, cX11_init, 1, none, { frames := 4, cells := 92, slots := 76614, locals := 91 }, [(0, .aload_n 0, 1, 0), (1, .invokespecial 1, 4, 0), (4, .aload_n 0, 5, 0), (5, .new 7, 8, 0), (8, .dup, 9, 0), (9, .invokespecial 9, 12, 0), (12, .putfield 10, 15, 0), (15, .aload_n 0, 16, 0), (16, .iconst 2, 17, 0), (17, .anewarray 7, 20, 0), (20, .dup, 21, 0), (21, .iconst 0, 22, 0), (22, .new 7, 25, 0), (25, .dup, 26, 0), (26, .invokespecial 9, 29, 0), (29, .aastore, 30, 0), (30, .dup, 31, 0), (31, .iconst 1, 32, 0), (32, .new 7, 35, 0), (35, .dup, 36, 0), (36, .invokespecial 9, 39, 0), (39, .aastore, 40, 0), (40, .putfield 16, 43, 0), (43, .aload_n 0, 44, 0), (44, .iconst 2, 45, 0), (45, .newarray .boolean, 47, 0), (47, .putfield 20, 50, 0), (50, .aload_n 0, 51, 0), (51, .new 24, 54, 0), (54, .dup, 55, 0), (55, .invokespecial 26, 58, 0), (58, .putfield 27, 61, 0), (61, .aload_n 0, 62, 0), (62, .new 31, 65, 0), (65, .dup, 66, 0), (66, .aload_n 0, 67, 0), (67, .getfield 10, 70, 0), (70, .invokespecial 33, 73, 0), (73, .putfield 36, 76, 0), (76, .aload_n 0, 77, 0), (77, .new 40, 80, 0), (80, .dup, 81, 0), (81, .aload_n 0, 82, 0), (82, .getfield 36, 85, 0), (85, .invokespecial 42, 88, 0), (88, .putfield 45, 91, 0), (91, .aload_n 0, 92, 0), (92, .new 49, 95, 0), (95, .dup, 96, 0), (96, .aload_n 0, 97, 0), (97, .getfield 36, 100, 0), (100, .invokespecial 51, 103, 0), (103, .putfield 52, 106, 0), (106, .aload_n 0, 107, 0), (107, .new 56, 110, 0), (110, .dup, 111, 0), (111, .aload_n 0, 112, 0), (112, .getfield 36, 115, 0), (115, .invokespecial 58, 118, 0), (118, .putfield 59, 121, 0), (121, .return_, 122, 0)])
def M_X11_month : wb_MD := (yX11_month, cX11_month, 10, (some .int), { frames := 1, cells := 0, slots := 0, locals := 24 }, [(0, .iload_n 1, 1, 0), (1, .getstatic 63, 4, 0), (4, .iconst 0, 5, 0), (5, .iaload, 6, 0), (6, .invokestatic 67, 9, 0), (9, .ifCond .eq 31, 12, 40), (12, .iload_n 2, 13, 0), (13, .getstatic 63, 16, 0), (16, .iconst 1, 17, 0), (17, .iaload, 18, 0), (18, .invokestatic 67, 21, 0), (21, .ifCond .eq 19, 24, 40), (24, .iload_n 3, 25, 0), (25, .getstatic 63, 28, 0), (28, .iconst 2, 29, 0), (29, .iaload, 30, 0), (30, .invokestatic 67, 33, 0), (33, .ifCond .eq 7, 36, 40), (36, .iconst 1, 37, 0), (37, .goto 4, 40, 41), (40, .iconst 0, 41, 0), (41, .istore 7, 43, 0), (43, .iload 5, 45, 0), (45, .getstatic 63, 48, 0), (48, .iconst 4, 49, 0), (49, .iaload, 50, 0), (50, .invokestatic 67, 53, 0), (53, .ifCond .eq 20, 56, 73), (56, .iload 6, 58, 0), (58, .getstatic 63, 61, 0), (61, .iconst 5, 62, 0), (62, .iaload, 63, 0), (63, .invokestatic 67, 66, 0), (66, .ifCond .eq 7, 69, 73), (69, .iconst 1, 70, 0), (70, .goto 4, 73, 74), (73, .iconst 0, 74, 0), (74, .istore 8, 76, 0), (76, .iload 7, 78, 0), (78, .ifCond .eq 21, 81, 99), (81, .iload 8, 83, 0), (83, .ifCond .eq 16, 86, 99), (86, .iload 4, 88, 0), (88, .getstatic 63, 91, 0), (91, .iconst 3, 92, 0), (92, .iaload, 93, 0), (93, .invokestatic 67, 96, 0), (96, .ifCond .ne 6, 99, 102), (99, .bipush (-2), 101, 0), (101, .ireturn, 102, 0), (102, .aload_n 0, 103, 0), (103, .getfield 10, 106, 0), (106, .getfield 71, 109, 0), (109, .bipush 8, 111, 0), (111, .if_icmp .lt 6, 114, 117), (114, .bipush (-4), 116, 0), (116, .ireturn, 117, 0), (117, .aload_n 0, 118, 0), (118, .getfield 10, 121, 0), (121, .invokevirtual 75, 124, 0), (124, .istore 9, 126, 0), (126, .aload_n 0, 127, 0), (127, .getfield 10, 130, 0), (130, .iload 9, 132, 0), (132, .iconst 0, 133, 0), (133, .iload_n 1, 134, 0), (134, .invokevirtual 79, 137, 0), (137, .aload_n 0, 138, 0), (138, .getfield 10, 141, 0), (141, .iload 9, 143, 0), (143, .iconst 1, 144, 0), (144, .iload_n 2, 145, 0), (145, .invokevirtual 79, 148, 0), (148, .aload_n 0, 149, 0), (149, .getfield 10, 152, 0), (152, .iload 9, 154, 0), (154, .iconst 2, 155, 0), (155, .iload_n 3, 156, 0), (156, .invokevirtual 79, 159, 0), (159, .aload_n 0, 160, 0), (160, .getfield 10, 163, 0), (163, .iload 9, 165, 0), (165, .iconst 3, 166, 0), (166, .iload 4, 168, 0), (168, .invokevirtual 79, 171, 0), (171, .aload_n 0, 172, 0), (172, .getfield 10, 175, 0), (175, .iload 9, 177, 0), (177, .iconst 4, 178, 0), (178, .iload 5, 180, 0), (180, .invokevirtual 79, 183, 0), (183, .aload_n 0, 184, 0), (184, .getfield 10, 187, 0), (187, .iload 9, 189, 0), (189, .iconst 5, 190, 0), (190, .iload 6, 192, 0), (192, .invokevirtual 79, 195, 0), (195, .iload 9, 197, 0), (197, .ireturn, 198, 0)])
def M_X11_change : wb_MD := (yX11_change, cX11_change, 5, (some .int), { frames := 1, cells := 0, slots := 0, locals := 24 }, [(0, .aload_n 0, 1, 0), (1, .iload_n 1, 2, 0), (2, .invokevirtual 83, 5, 0), (5, .ifCond .ne 5, 8, 10), (8, .iconst (-1), 9, 0), (9, .ireturn, 10, 0), (10, .iload_n 2, 11, 0), (11, .ifCond .lt 21, 14, 32), (14, .iload_n 2, 15, 0), (15, .bipush 9, 17, 0), (17, .if_icmp .ge 15, 20, 32), (20, .iload_n 3, 21, 0), (21, .getstatic 63, 24, 0), (24, .iload_n 2, 25, 0), (25, .iaload, 26, 0), (26, .invokestatic 67, 29, 0), (29, .ifCond .ne 6, 32, 35), (32, .bipush (-2), 34, 0), (34, .ireturn, 35, 0), (35, .aload_n 0, 36, 0), (36, .getfield 10, 39, 0), (39, .iload_n 1, 40, 0), (40, .iload_n 2, 41, 0), (41, .invokevirtual 87, 44, 0), (44, .istore 4, 46, 0), (46, .aload_n 0, 47, 0), (47, .getfield 10, 50, 0), (50, .iload_n 1, 51, 0), (51, .iload_n 2, 52, 0), (52, .iload_n 3, 53, 0), (53, .invokevirtual 79, 56, 0), (56, .iload 4, 58, 0), (58, .ireturn, 59, 0)])
def M_X11_about : wb_MD := (yX11_about, cX11_about, 3, (some .int), { frames := 1, cells := 0, slots := 0, locals := 23 }, [(0, .aload_n 0, 1, 0), (1, .iload_n 1, 2, 0), (2, .invokevirtual 83, 5, 0), (5, .ifCond .ne 5, 8, 10), (8, .iconst (-1), 9, 0), (9, .ireturn, 10, 0), (10, .iload_n 2, 11, 0), (11, .bipush 8, 13, 0), (13, .invokestatic 67, 16, 0), (16, .ifCond .eq 15, 19, 31), (19, .aload_n 0, 20, 0), (20, .getfield 10, 23, 0), (23, .iload_n 1, 24, 0), (24, .iload_n 2, 25, 0), (25, .invokevirtual 87, 28, 0), (28, .goto 5, 31, 33), (31, .bipush (-2), 33, 0), (33, .ireturn, 34, 0)])
def M_X11_tear : wb_MD := (yX11_tear, cX11_tear, 1, (some .int), { frames := 2, cells := 0, slots := 0, locals := 41 }, [(0, .aload_n 0, 1, 0), (1, .getfield 10, 4, 0), (4, .getfield 71, 7, 0), (7, .ifCond .ne 6, 10, 13), (10, .bipush (-5), 12, 0), (12, .ireturn, 13, 0), (13, .aload_n 0, 14, 0), (14, .getfield 10, 17, 0), (17, .invokevirtual 91, 20, 0), (20, .ireturn, 21, 0)])
def M_X11_stock : wb_MD := (yX11_stock, cX11_stock, 5, (some .int), { frames := 1, cells := 0, slots := 0, locals := 24 }, [(0, .iload_n 1, 1, 0), (1, .invokestatic 94, 4, 0), (4, .ifCond .ne 5, 7, 9), (7, .iconst (-1), 8, 0), (8, .ireturn, 9, 0), (9, .iload_n 2, 10, 0), (10, .ifCond .lt 20, 13, 30), (13, .iload_n 2, 14, 0), (14, .iconst 4, 15, 0), (15, .if_icmp .ge 15, 18, 30), (18, .iload_n 3, 19, 0), (19, .getstatic 97, 22, 0), (22, .iload_n 2, 23, 0), (23, .iaload, 24, 0), (24, .invokestatic 67, 27, 0), (27, .ifCond .ne 6, 30, 33), (30, .bipush (-2), 32, 0), (32, .ireturn, 33, 0), (33, .iload_n 2, 34, 0), (34, .ifCond .ne 19, 37, 53), (37, .iload_n 3, 38, 0), (38, .aload_n 0, 39, 0), (39, .getfield 10, 42, 0), (42, .iload_n 1, 43, 0), (43, .iconst 1, 44, 0), (44, .invokevirtual 100, 47, 0), (47, .if_icmp .le 6, 50, 53), (50, .bipush (-2), 52, 0), (52, .ireturn, 53, 0), (53, .iload_n 2, 54, 0), (54, .iconst 1, 55, 0), (55, .if_icmp .ne 19, 58, 74), (58, .iload_n 3, 59, 0), (59, .aload_n 0, 60, 0), (60, .getfield 10, 63, 0), (63, .iload_n 1, 64, 0), (64, .iconst 0, 65, 0), (65, .invokevirtual 100, 68, 0), (68, .if_icmp .ge 6, 71, 74), (71, .bipush (-2), 73, 0), (73, .ireturn, 74, 0), (74, .aload_n 0, 75, 0), (75, .getfield 10, 78, 0), (78, .iload_n 1, 79, 0), (79, .iload_n 2, 80, 0), (80, .invokevirtual 100, 83, 0), (83, .istore 4, 85, 0), (85, .aload_n 0, 86, 0), (86, .getfield 10, 89, 0), (89, .iload_n 1, 90, 0), (90, .iload_n 2, 91, 0), (91, .iload_n 3, 92, 0), (92, .invokevirtual 103, 95, 0), (95, .iload 4, 97, 0), (97, .ireturn, 98, 0)])
def M_X11_stand : wb_MD := (yX11_stand, cX11_stand, 6, (some .int), { frames := 1, cells := 0, slots := 0, locals := 22 }, [(0, .iload_n 1, 1, 0), (1, .iconst (-1), 2, 0), (2, .if_icmp .ne 12, 5, 14), (5, .iload_n 2, 6, 0), (6, .iconst (-1), 7, 0), (7, .if_icmp .ne 7, 10, 14), (10, .iconst 1, 11, 0), (11, .goto 4, 14, 15), (14, .iconst 0, 15, 0), (15, .istore_n 3, 16, 0), (16, .iload_n 1, 17, 0), (17, .invokestatic 94, 20, 0), (20, .ifCond .eq 19, 23, 39), (23, .iload_n 2, 24, 0), (24, .invokestatic 94, 27, 0), (27, .ifCond .eq 12, 30, 39), (30, .iload_n 1, 31, 0), (31, .iload_n 2, 32, 0), (32, .if_icmp .eq 7, 35, 39), (35, .iconst 1, 36, 0), (36, .goto 4, 39, 40), (39, .iconst 0, 40, 0), (40, .istore 4, 42, 0), (42, .iload_n 3, 43, 0), (43, .ifCond .ne 10, 46, 53), (46, .iload 4, 48, 0), (48, .ifCond .ne 5, 51, 53), (51, .iconst (-1), 52, 0), (52, .ireturn, 53, 0), (53, .aload_n 0, 54, 0), (54, .getfield 10, 57, 0), (57, .invokevirtual 106, 60, 0), (60, .istore 5, 62, 0), (62, .aload_n 0, 63, 0), (63, .getfield 10, 66, 0), (66, .iload_n 1, 67, 0), (67, .iload_n 2, 68, 0), (68, .invokevirtual 109, 71, 0), (71, .iload 5, 73, 0), (73, .ireturn, 74, 0)])
def M_X11_say : wb_MD := (yX11_say, cX11_say, 2, (some .int), { frames := 1, cells := 0, slots := 0, locals := 21 }, [(0, .iload_n 1, 1, 0), (1, .bipush 33, 3, 0), (3, .if_icmp .lt 9, 6, 12), (6, .iload_n 1, 7, 0), (7, .bipush 126, 9, 0), (9, .if_icmp .le 6, 12, 15), (12, .bipush (-2), 14, 0), (14, .ireturn, 15, 0), (15, .aload_n 0, 16, 0), (16, .getfield 27, 19, 0), (19, .iload_n 1, 20, 0), (20, .invokevirtual 113, 23, 0), (23, .ifCond .eq 13, 26, 36), (26, .aload_n 0, 27, 0), (27, .getfield 27, 30, 0), (30, .getfield 116, 33, 0), (33, .goto 5, 36, 38), (36, .bipush (-4), 38, 0), (38, .ireturn, 39, 0)])
def M_X11_wipe : wb_MD := (yX11_wipe, cX11_wipe, 1, (some .int), { frames := 1, cells := 0, slots := 0, locals := 21 }, [(0, .aload_n 0, 1, 0), (1, .getfield 27, 4, 0), (4, .invokevirtual 119, 7, 0), (7, .ireturn, 8, 0)])
def M_X11_fault : wb_MD := (yX11_fault, cX11_fault, 1, (some .int), { frames := 3, cells := 0, slots := 0, locals := 63 }, [(0, .aload_n 0, 1, 0), (1, .getfield 27, 4, 0), (4, .invokevirtual 122, 7, 0), (7, .ireturn, 8, 0)])
def M_X11_rule : wb_MD := (yX11_rule, cX11_rule, 2, (some .int), { frames := 4, cells := 0, slots := 0, locals := 93 }, [(0, .aload_n 0, 1, 0), (1, .getfield 27, 4, 0), (4, .invokevirtual 122, 7, 0), (7, .bipush (-6), 9, 0), (9, .if_icmp .eq 6, 12, 15), (12, .bipush (-5), 14, 0), (14, .ireturn, 15, 0), (15, .aload_n 0, 16, 0), (16, .getfield 27, 19, 0), (19, .aload_n 0, 20, 0), (20, .getfield 10, 23, 0), (23, .getfield 125, 26, 0), (26, .invokevirtual 129, 29, 0), (29, .istore_n 1, 30, 0), (30, .aload_n 0, 31, 0), (31, .getfield 10, 34, 0), (34, .iload_n 1, 35, 0), (35, .invokevirtual 133, 38, 0), (38, .aload_n 0, 39, 0), (39, .getfield 27, 42, 0), (42, .invokevirtual 119, 45, 0), (45, .pop, 46, 0), (46, .iload_n 1, 47, 0), (47, .ireturn, 48, 0)])
def M_X11_free : wb_MD := (yX11_free, cX11_free, 2, (some .int), { frames := 1, cells := 0, slots := 0, locals := 21 }, [(0, .aload_n 0, 1, 0), (1, .getfield 10, 4, 0), (4, .getfield 137, 7, 0), (7, .istore_n 1, 8, 0), (8, .aload_n 0, 9, 0), (9, .getfield 10, 12, 0), (12, .getfield 125, 15, 0), (15, .invokevirtual 140, 18, 0), (18, .aload_n 0, 19, 0), (19, .getfield 10, 22, 0), (22, .iconst 0, 23, 0), (23, .invokevirtual 133, 26, 0), (26, .iload_n 1, 27, 0), (27, .ireturn, 28, 0)])
def M_X11_fits : wb_MD := (yX11_fits, cX11_fits, 5, (some .int), { frames := 6, cells := 0, slots := 0, locals := 140 }, [(0, .iload_n 1, 1, 0), (1, .invokestatic 145, 4, 0), (4, .ifCond .ne 5, 7, 9), (7, .iconst (-1), 8, 0), (8, .ireturn, 9, 0), (9, .iload_n 2, 10, 0), (10, .iconst 2, 11, 0), (11, .invokestatic 67, 14, 0), (14, .ifCond .ne 6, 17, 20), (17, .bipush (-2), 19, 0), (19, .ireturn, 20, 0), (20, .iload_n 2, 21, 0), (21, .iconst 1, 22, 0), (22, .if_icmp .eq 17, 25, 39), (25, .aload_n 0, 26, 0), (26, .getfield 10, 29, 0), (29, .getfield 125, 32, 0), (32, .iload_n 1, 33, 0), (33, .invokevirtual 148, 36, 0), (36, .ifCond .eq 7, 39, 43), (39, .iconst 1, 40, 0), (40, .goto 4, 43, 44), (43, .iconst 0, 44, 0), (44, .istore_n 3, 45, 0), (45, .iload_n 2, 46, 0), (46, .ifCond .eq 14, 49, 60), (49, .aload_n 0, 50, 0), (50, .getfield 36, 53, 0), (53, .iload_n 1, 54, 0), (54, .invokevirtual 151, 57, 0), (57, .ifCond .ge 7, 60, 64), (60, .iconst 1, 61, 0), (61, .goto 4, 64, 65), (64, .iconst 0, 65, 0), (65, .istore 4, 67, 0), (67, .iload_n 3, 68, 0), (68, .ifCond .eq 12, 71, 80), (71, .iload 4, 73, 0), (73, .ifCond .eq 7, 76, 80), (76, .iconst 1, 77, 0), (77, .goto 4, 80, 81), (80, .iconst 0, 81, 0), (81, .ireturn, 82, 0)])
def M_X11_needs : wb_MD := (yX11_needs, cX11_needs, 4, (some .int), { frames := 4, cells := 0, slots := 0, locals := 91 }, [(0, .iload_n 1, 1, 0), (1, .invokestatic 145, 4, 0), (4, .ifCond .eq 18, 7, 22), (7, .aload_n 0, 8, 0), (8, .iload_n 2, 9, 0), (9, .invokevirtual 83, 12, 0), (12, .ifCond .eq 10, 15, 22), (15, .iload_n 3, 16, 0), (16, .invokestatic 94, 19, 0), (19, .ifCond .ne 5, 22, 24), (22, .iconst (-1), 23, 0), (23, .ireturn, 24, 0), (24, .aload_n 0, 25, 0), (25, .getfield 10, 28, 0), (28, .iload_n 1, 29, 0), (29, .iload_n 2, 30, 0), (30, .iload_n 3, 31, 0), (31, .invokevirtual 155, 34, 0), (34, .ireturn, 35, 0)])
def M_X11_judge : wb_MD := (yX11_judge, cX11_judge, 4, (some .int), { frames := 6, cells := 0, slots := 0, locals := 140 }, [(0, .iload_n 1, 1, 0), (1, .invokestatic 145, 4, 0), (4, .ifCond .ne 5, 7, 9), (7, .iconst (-1), 8, 0), (8, .ireturn, 9, 0), (9, .iload_n 2, 10, 0), (10, .iconst 1, 11, 0), (11, .invokestatic 67, 14, 0), (14, .ifCond .ne 6, 17, 20), (17, .bipush (-2), 19, 0), (19, .ireturn, 20, 0), (20, .aload_n 0, 21, 0), (21, .getfield 36, 24, 0), (24, .iload_n 1, 25, 0), (25, .invokevirtual 151, 28, 0), (28, .istore_n 3, 29, 0), (29, .iload_n 3, 30, 0), (30, .ifCond .ge 6, 33, 36), (33, .bipush (-6), 35, 0), (35, .ireturn, 36, 0), (36, .iload_n 2, 37, 0), (37, .ifCond .ne 9, 40, 46), (40, .iload_n 3, 41, 0), (41, .iconst 3, 42, 0), (42, .idiv, 43, 0), (43, .goto 6, 46, 49), (46, .iload_n 3, 47, 0), (47, .iconst 3, 48, 0), (48, .irem, 49, 0), (49, .ireturn, 50, 0)])
def M_X11_lies : wb_MD := (yX11_lies, cX11_lies, 5, (some .int), { frames := 5, cells := 0, slots := 0, locals := 115 }, [(0, .iload_n 1, 1, 0), (1, .invokestatic 145, 4, 0), (4, .ifCond .eq 18, 7, 22), (7, .iload_n 2, 8, 0), (8, .invokestatic 94, 11, 0), (11, .ifCond .eq 11, 14, 22), (14, .aload_n 0, 15, 0), (15, .iload_n 3, 16, 0), (16, .invokevirtual 83, 19, 0), (19, .ifCond .ne 5, 22, 24), (22, .iconst (-1), 23, 0), (23, .ireturn, 24, 0), (24, .iload 4, 26, 0), (26, .iconst 1, 27, 0), (27, .invokestatic 67, 30, 0), (30, .ifCond .ne 6, 33, 36), (33, .bipush (-2), 35, 0), (35, .ireturn, 36, 0), (36, .aload_n 0, 37, 0), (37, .getfield 36, 40, 0), (40, .iload_n 1, 41, 0), (41, .iload_n 2, 42, 0), (42, .iload_n 3, 43, 0), (43, .invokevirtual 159, 46, 0), (46, .iload_n 3, 47, 0), (47, .if_icmp .gt 6, 50, 53), (50, .bipush (-5), 52, 0), (52, .ireturn, 53, 0), (53, .iload 4, 55, 0), (55, .ifCond .ne 16, 58, 71), (58, .aload_n 0, 59, 0), (59, .getfield 36, 62, 0), (62, .getfield 162, 65, 0), (65, .getfield 166, 68, 0), (68, .goto 13, 71, 81), (71, .aload_n 0, 72, 0), (72, .getfield 36, 75, 0), (75, .getfield 162, 78, 0), (78, .getfield 171, 81, 0), (81, .ireturn, 82, 0)])
def M_X11_all : wb_MD := (yX11_all, cX11_all, 3, (some .int), { frames := 6, cells := 0, slots := 0, locals := 138 }, [(0, .aload_n 0, 1, 0), (1, .getfield 36, 4, 0), (4, .invokevirtual 174, 7, 0), (7, .iload_n 1, 8, 0), (8, .iconst (-1), 9, 0), (9, .if_icmp .ne 14, 12, 23), (12, .aload_n 0, 13, 0), (13, .getfield 36, 16, 0), (16, .getfield 177, 19, 0), (19, .invokevirtual 180, 22, 0), (22, .ireturn, 23, 0), (23, .aload_n 0, 24, 0), (24, .getfield 36, 27, 0), (27, .getfield 177, 30, 0), (30, .iload_n 1, 31, 0), (31, .invokevirtual 182, 34, 0), (34, .istore_n 2, 35, 0), (35, .iload_n 2, 36, 0), (36, .ifCond .ge 8, 39, 44), (39, .bipush (-6), 41, 0), (41, .goto 4, 44, 45), (44, .iload_n 2, 45, 0), (45, .ireturn, 46, 0)])
def M_X11_ends : wb_MD := (yX11_ends, cX11_ends, 5, (some .int), { frames := 6, cells := 0, slots := 0, locals := 138 }, [(0, .iload_n 1, 1, 0), (1, .invokestatic 185, 4, 0), (4, .ifCond .eq 10, 7, 14), (7, .iload_n 2, 8, 0), (8, .invokestatic 94, 11, 0), (11, .ifCond .ne 5, 14, 16), (14, .iconst (-1), 15, 0), (15, .ireturn, 16, 0), (16, .iload_n 3, 17, 0), (17, .iconst 1, 18, 0), (18, .invokestatic 67, 21, 0), (21, .ifCond .ne 6, 24, 27), (24, .bipush (-2), 26, 0), (26, .ireturn, 27, 0), (27, .aload_n 0, 28, 0), (28, .getfield 36, 31, 0), (31, .invokevirtual 174, 34, 0), (34, .aload_n 0, 35, 0), (35, .getfield 36, 38, 0), (38, .iload_n 1, 39, 0), (39, .iload_n 2, 40, 0), (40, .invokevirtual 188, 43, 0), (43, .istore 4, 45, 0), (45, .iload 4, 47, 0), (47, .ifCond .ne 6, 50, 53), (50, .bipush (-5), 52, 0), (52, .ireturn, 53, 0), (53, .iload_n 3, 54, 0), (54, .ifCond .ne 12, 57, 66), (57, .iload 4, 59, 0), (59, .i2l, 60, 0), (60, .invokestatic 191, 63, 0), (63, .goto 8, 66, 71), (66, .iload 4, 68, 0), (68, .invokestatic 195, 71, 0), (71, .ireturn, 72, 0)])
def M_X11_must : wb_MD := (yX11_must, cX11_must, 2, (some .int), { frames := 6, cells := 0, slots := 0, locals := 138 }, [(0, .iload_n 1, 1, 0), (1, .iconst 1, 2, 0), (2, .invokestatic 67, 5, 0), (5, .ifCond .ne 6, 8, 11), (8, .bipush (-2), 10, 0), (10, .ireturn, 11, 0), (11, .aload_n 0, 12, 0), (12, .getfield 36, 15, 0), (15, .invokevirtual 174, 18, 0), (18, .aload_n 0, 19, 0), (19, .getfield 36, 22, 0), (22, .invokevirtual 198, 25, 0), (25, .ifCond .ge 6, 28, 31), (28, .bipush (-5), 30, 0), (30, .ireturn, 31, 0), (31, .iload_n 1, 32, 0), (32, .ifCond .ne 13, 35, 45), (35, .aload_n 0, 36, 0), (36, .getfield 36, 39, 0), (39, .invokevirtual 201, 42, 0), (42, .goto 10, 45, 52), (45, .aload_n 0, 46, 0), (46, .getfield 36, 49, 0), (49, .invokevirtual 204, 52, 0), (52, .ireturn, 53, 0)])
def M_X11_plain : wb_MD := (yX11_plain, cX11_plain, 3, (some .int), { frames := 6, cells := 0, slots := 0, locals := 138 }, [(0, .iload_n 1, 1, 0), (1, .iconst 1, 2, 0), (2, .invokestatic 67, 5, 0), (5, .ifCond .ne 6, 8, 11), (8, .bipush (-2), 10, 0), (10, .ireturn, 11, 0), (11, .aload_n 0, 12, 0), (12, .getfield 36, 15, 0), (15, .invokevirtual 174, 18, 0), (18, .aload_n 0, 19, 0), (19, .getfield 36, 22, 0), (22, .invokevirtual 207, 25, 0), (25, .istore_n 2, 26, 0), (26, .iload_n 2, 27, 0), (27, .ifCond .ge 6, 30, 33), (30, .bipush (-5), 32, 0), (32, .ireturn, 33, 0), (33, .iload_n 1, 34, 0), (34, .ifCond .ne 7, 37, 41), (37, .iload_n 2, 38, 0), (38, .goto 18, 41, 56), (41, .iload_n 2, 42, 0), (42, .bipush 125, 44, 0), (44, .idiv, 45, 0), (45, .invokestatic 210, 48, 0), (48, .iload_n 2, 49, 0), (49, .bipush 125, 51, 0), (51, .irem, 52, 0), (52, .invokestatic 210, 55, 0), (55, .iadd, 56, 0), (56, .ireturn, 57, 0)])
def M_X11_near : wb_MD := (yX11_near, cX11_near, 2, (some .int), { frames := 7, cells := 0, slots := 0, locals := 158 }, [(0, .iload_n 1, 1, 0), (1, .iconst 1, 2, 0), (2, .invokestatic 67, 5, 0), (5, .ifCond .ne 6, 8, 11), (8, .bipush (-2), 10, 0), (10, .ireturn, 11, 0), (11, .aload_n 0, 12, 0), (12, .getfield 36, 15, 0), (15, .invokevirtual 174, 18, 0), (18, .aload_n 0, 19, 0), (19, .getfield 45, 22, 0), (22, .invokevirtual 213, 25, 0), (25, .aload_n 0, 26, 0), (26, .getfield 45, 29, 0), (29, .getfield 216, 32, 0), (32, .ifCond .ge 6, 35, 38), (35, .bipush (-5), 37, 0), (37, .ireturn, 38, 0), (38, .iload_n 1, 39, 0), (39, .ifCond .ne 13, 42, 52), (42, .aload_n 0, 43, 0), (43, .getfield 45, 46, 0), (46, .getfield 219, 49, 0), (49, .goto 10, 52, 59), (52, .aload_n 0, 53, 0), (53, .getfield 45, 56, 0), (56, .getfield 216, 59, 0), (59, .ireturn, 60, 0)])
def M_X11_doubt : wb_MD := (yX11_doubt, cX11_doubt, 2, (some .int), { frames := 7, cells := 0, slots := 0, locals := 157 }, [(0, .iload_n 1, 1, 0), (1, .iconst 1, 2, 0), (2, .invokestatic 67, 5, 0), (5, .ifCond .ne 6, 8, 11), (8, .bipush (-2), 10, 0), (10, .ireturn, 11, 0), (11, .aload_n 0, 12, 0), (12, .getfield 36, 15, 0), (15, .invokevirtual 174, 18, 0), (18, .aload_n 0, 19, 0), (19, .getfield 45, 22, 0), (22, .invokevirtual 222, 25, 0), (25, .aload_n 0, 26, 0), (26, .getfield 45, 29, 0), (29, .getfield 225, 32, 0), (32, .ifCond .ge 6, 35, 38), (35, .bipush (-5), 37, 0), (37, .ireturn, 38, 0), (38, .iload_n 1, 39, 0), (39, .ifCond .ne 13, 42, 52), (42, .aload_n 0, 43, 0), (43, .getfield 45, 46, 0), (46, .getfield 228, 49, 0), (49, .goto 10, 52, 59), (52, .aload_n 0, 53, 0), (53, .getfield 45, 56, 0), (56, .getfield 225, 59, 0), (59, .ireturn, 60, 0)])
def M_X11_changed : wb_MD := (yX11_changed, cX11_changed, 2, (some .int), { frames := 6, cells := 0, slots := 0, locals := 148 }, [(0, .iload_n 1, 1, 0), (1, .iconst 3, 2, 0), (2, .invokestatic 67, 5, 0), (5, .ifCond .ne 6, 8, 11), (8, .bipush (-2), 10, 0), (10, .ireturn, 11, 0), (11, .aload_n 0, 12, 0), (12, .getfield 36, 15, 0), (15, .invokevirtual 174, 18, 0), (18, .aload_n 0, 19, 0), (19, .getfield 36, 22, 0), (22, .invokevirtual 198, 25, 0), (25, .ifCond .lt 6, 28, 31), (28, .bipush (-3), 30, 0), (30, .ireturn, 31, 0), (31, .aload_n 0, 32, 0), (32, .getfield 52, 35, 0), (35, .invokevirtual 231, 38, 0), (38, .aload_n 0, 39, 0), (39, .getfield 52, 42, 0), (42, .getfield 234, 45, 0), (45, .ifCond .ge 6, 48, 51), (48, .bipush (-5), 50, 0), (50, .ireturn, 51, 0), (51, .iload_n 1, 52, 0), (52, .tableswitch 52 0 2 #[28, 36, 44], 80, 0), (80, .aload_n 0, 81, 0), (81, .getfield 52, 84, 0), (84, .getfield 234, 87, 0), (87, .ireturn, 88, 0), (88, .aload_n 0, 89, 0), (89, .getfield 52, 92, 0), (92, .getfield 237, 95, 0), (95, .ireturn, 96, 0), (96, .aload_n 0, 97, 0), (97, .getfield 52, 100, 0), (100, .getfield 240, 103, 0), (103, .ireturn, 104, 0), (104, .aload_n 0, 105, 0), (105, .getfield 52, 108, 0), (108, .getfield 243, 111, 0), (111, .ireturn, 112, 0)])
def M_X11_cost : wb_MD := (yX11_cost, cX11_cost, 4, (some .int), { frames := 2, cells := 0, slots := 0, locals := 47 }, [(0, .iload_n 1, 1, 0), (1, .invokestatic 145, 4, 0), (4, .ifCond .eq 18, 7, 22), (7, .iload_n 2, 8, 0), (8, .invokestatic 185, 11, 0), (11, .ifCond .eq 11, 14, 22), (14, .aload_n 0, 15, 0), (15, .iload_n 3, 16, 0), (16, .invokevirtual 83, 19, 0), (19, .ifCond .ne 5, 22, 24), (22, .iconst (-1), 23, 0), (23, .ireturn, 24, 0), (24, .aload_n 0, 25, 0), (25, .getfield 10, 28, 0), (28, .iload_n 2, 29, 0), (29, .ifCond .ne 10, 32, 39), (32, .iload_n 1, 33, 0), (33, .bipush 125, 35, 0), (35, .idiv, 36, 0), (36, .goto 7, 39, 43), (39, .iload_n 1, 40, 0), (40, .bipush 125, 42, 0), (42, .irem, 43, 0), (43, .iload_n 3, 44, 0), (44, .invokevirtual 246, 47, 0), (47, .ireturn, 48, 0)])
def M_X11_costs : wb_MD := (yX11_costs, cX11_costs, 4, (some .int), { frames := 6, cells := 0, slots := 0, locals := 138 }, [(0, .iload_n 1, 1, 0), (1, .invokestatic 185, 4, 0), (4, .ifCond .eq 11, 7, 15), (7, .aload_n 0, 8, 0), (8, .iload_n 2, 9, 0), (9, .invokevirtual 83, 12, 0), (12, .ifCond .ne 5, 15, 17), (15, .iconst (-1), 16, 0), (16, .ireturn, 17, 0), (17, .iload_n 3, 18, 0), (18, .iconst 1, 19, 0), (19, .invokestatic 67, 22, 0), (22, .ifCond .ne 6, 25, 28), (25, .bipush (-2), 27, 0), (27, .ireturn, 28, 0), (28, .aload_n 0, 29, 0), (29, .getfield 36, 32, 0), (32, .invokevirtual 174, 35, 0), (35, .aload_n 0, 36, 0), (36, .getfield 36, 39, 0), (39, .invokevirtual 198, 42, 0), (42, .ifCond .ge 6, 45, 48), (45, .bipush (-5), 47, 0), (47, .ireturn, 48, 0), (48, .aload_n 0, 49, 0), (49, .getfield 36, 52, 0), (52, .iload_n 1, 53, 0), (53, .iload_n 2, 54, 0), (54, .iload_n 3, 55, 0), (55, .invokevirtual 249, 58, 0), (58, .ireturn, 59, 0)])
def M_X11_buy : wb_MD := (yX11_buy, cX11_buy, 6, (some .int), { frames := 6, cells := 0, slots := 0, locals := 138 }, [(0, .iload_n 1, 1, 0), (1, .invokestatic 94, 4, 0), (4, .ifCond .ne 5, 7, 9), (7, .iconst (-1), 8, 0), (8, .ireturn, 9, 0), (9, .iload_n 2, 10, 0), (10, .getstatic 63, 13, 0), (13, .iconst 4, 14, 0), (14, .iaload, 15, 0), (15, .invokestatic 67, 18, 0), (18, .ifCond .eq 24, 21, 42), (21, .iload_n 3, 22, 0), (22, .getstatic 63, 25, 0), (25, .iconst 5, 26, 0), (26, .iaload, 27, 0), (27, .invokestatic 67, 30, 0), (30, .ifCond .eq 12, 33, 42), (33, .iload 4, 35, 0), (35, .iconst 1, 36, 0), (36, .invokestatic 67, 39, 0), (39, .ifCond .ne 6, 42, 45), (42, .bipush (-2), 44, 0), (44, .ireturn, 45, 0), (45, .aload_n 0, 46, 0), (46, .getfield 36, 49, 0), (49, .invokevirtual 174, 52, 0), (52, .aload_n 0, 53, 0), (53, .getfield 36, 56, 0), (56, .iload_n 1, 57, 0), (57, .invokevirtual 252, 60, 0), (60, .istore 5, 62, 0), (62, .iload 5, 64, 0), (64, .ifCond .ne 6, 67, 70), (67, .bipush (-5), 69, 0), (69, .ireturn, 70, 0), (70, .iload 5, 72, 0), (72, .iload_n 2, 73, 0), (73, .iload_n 3, 74, 0), (74, .iload 4, 76, 0), (76, .invokestatic 255, 79, 0), (79, .ireturn, 80, 0)])
def M_X11_settle : wb_MD := (yX11_settle, cX11_settle, 3, (some .int), { frames := 7, cells := 0, slots := 0, locals := 175 }, [(0, .iload_n 1, 1, 0), (1, .iconst 2, 2, 0), (2, .invokestatic 67, 5, 0), (5, .ifCond .ne 6, 8, 11), (8, .bipush (-2), 10, 0), (10, .ireturn, 11, 0), (11, .aload_n 0, 12, 0), (12, .getfield 10, 15, 0), (15, .getfield 71, 18, 0), (18, .ifCond .ne 6, 21, 24), (21, .bipush (-3), 23, 0), (23, .ireturn, 24, 0), (24, .aload_n 0, 25, 0), (25, .getfield 36, 28, 0), (28, .invokevirtual 174, 31, 0), (31, .aload_n 0, 32, 0), (32, .getfield 36, 35, 0), (35, .invokevirtual 198, 38, 0), (38, .ifCond .ge 6, 41, 44), (41, .bipush (-5), 43, 0), (43, .ireturn, 44, 0), (44, .aload_n 0, 45, 0), (45, .getfield 59, 48, 0), (48, .invokevirtual 259, 51, 0), (51, .istore_n 2, 52, 0), (52, .iload_n 1, 53, 0), (53, .iconst 2, 54, 0), (54, .if_icmp .ne 12, 57, 66), (57, .aload_n 0, 58, 0), (58, .getfield 59, 61, 0), (61, .iload_n 2, 62, 0), (62, .invokevirtual 262, 65, 0), (65, .ireturn, 66, 0), (66, .iload_n 1, 67, 0), (67, .ifCond .ne 9, 70, 76), (70, .iload_n 2, 71, 0), (71, .iconst 3, 72, 0), (72, .idiv, 73, 0), (73, .goto 6, 76, 79), (76, .iload_n 2, 77, 0), (77, .iconst 3, 78, 0), (78, .irem, 79, 0), (79, .ireturn, 80, 0)])
def M_X11_hide : wb_MD := (yX11_hide, cX11_hide, 4, (some .int), { frames := 7, cells := 0, slots := 0, locals := 179 }, [(0, .iload_n 1, 1, 0), (1, .sipush 999, 4, 0), (4, .invokestatic 67, 7, 0), (7, .ifCond .eq 11, 10, 18), (10, .iload_n 2, 11, 0), (11, .iconst 3, 12, 0), (12, .invokestatic 67, 15, 0), (15, .ifCond .ne 6, 18, 21), (18, .bipush (-2), 20, 0), (20, .ireturn, 21, 0), (21, .aload_n 0, 22, 0), (22, .getfield 10, 25, 0), (25, .getfield 71, 28, 0), (28, .ifCond .ne 6, 31, 34), (31, .bipush (-3), 33, 0), (33, .ireturn, 34, 0), (34, .aload_n 0, 35, 0), (35, .getfield 36, 38, 0), (38, .invokevirtual 174, 41, 0), (41, .aload_n 0, 42, 0), (42, .getfield 59, 45, 0), (45, .iload_n 1, 46, 0), (46, .invokevirtual 265, 49, 0), (49, .istore_n 3, 50, 0), (50, .iload_n 3, 51, 0), (51, .ifCond .ge 6, 54, 57), (54, .bipush (-5), 56, 0), (56, .ireturn, 57, 0), (57, .iload_n 2, 58, 0), (58, .tableswitch 47 0 2 #[26, 33, 40], 84, 0), (84, .iload_n 3, 85, 0), (85, .bipush 9, 87, 0), (87, .idiv, 88, 0), (88, .iconst 3, 89, 0), (89, .idiv, 90, 0), (90, .ireturn, 91, 0), (91, .iload_n 3, 92, 0), (92, .bipush 9, 94, 0), (94, .idiv, 95, 0), (95, .iconst 3, 96, 0), (96, .irem, 97, 0), (97, .ireturn, 98, 0), (98, .iload_n 3, 99, 0), (99, .bipush 9, 101, 0), (101, .irem, 102, 0), (102, .iconst 1, 103, 0), (103, .iadd, 104, 0), (104, .ireturn, 105, 0), (105, .aload_n 0, 106, 0), (106, .getfield 59, 109, 0), (109, .iload_n 3, 110, 0), (110, .invokevirtual 268, 113, 0), (113, .ireturn, 114, 0)])
def M_X11_image : wb_MD := (yX11_image, cX11_image, 2, (some .int), { frames := 3, cells := 0, slots := 0, locals := 68 }, [(0, .iload_n 1, 1, 0), (1, .ifCond .lt 8, 4, 9), (4, .iload_n 1, 5, 0), (5, .iconst 2, 6, 0), (6, .if_icmp .lt 6, 9, 12), (9, .bipush (-2), 11, 0), (11, .ireturn, 12, 0), (12, .aload_n 0, 13, 0), (13, .getfield 16, 16, 0), (16, .iload_n 1, 17, 0), (17, .aaload, 18, 0), (18, .aload_n 0, 19, 0), (19, .getfield 10, 22, 0), (22, .invokevirtual 271, 25, 0), (25, .aload_n 0, 26, 0), (26, .getfield 20, 29, 0), (29, .iload_n 1, 30, 0), (30, .iconst 1, 31, 0), (31, .bastore, 32, 0), (32, .iconst 1, 33, 0), (33, .ireturn, 34, 0)])
def M_X11_restore : wb_MD := (yX11_restore, cX11_restore, 2, (some .int), { frames := 3, cells := 0, slots := 0, locals := 68 }, [(0, .iload_n 1, 1, 0), (1, .ifCond .lt 8, 4, 9), (4, .iload_n 1, 5, 0), (5, .iconst 2, 6, 0), (6, .if_icmp .lt 6, 9, 12), (9, .bipush (-2), 11, 0), (11, .ireturn, 12, 0), (12, .aload_n 0, 13, 0), (13, .getfield 20, 16, 0), (16, .iload_n 1, 17, 0), (17, .baload, 18, 0), (18, .ifCond .ne 6, 21, 24), (21, .bipush (-3), 23, 0), (23, .ireturn, 24, 0), (24, .aload_n 0, 25, 0), (25, .getfield 10, 28, 0), (28, .aload_n 0, 29, 0), (29, .getfield 16, 32, 0), (32, .iload_n 1, 33, 0), (33, .aaload, 34, 0), (34, .invokevirtual 271, 37, 0), (37, .iconst 1, 38, 0), (38, .ireturn, 39, 0)])
def M_X11_told : wb_MD := (yX11_told, cX11_told, 2, (some .int), { frames := 1, cells := 0, slots := 0, locals := 23 }, [(0, .iload_n 1, 1, 0), (1, .bipush 10, 3, 0), (3, .if_icmp .lt 29, 6, 32), (6, .iload_n 1, 7, 0), (7, .bipush 22, 9, 0), (9, .if_icmp .ge 23, 12, 32), (12, .aload_n 0, 13, 0), (13, .getfield 10, 16, 0), (16, .iload_n 1, 17, 0), (17, .bipush 10, 19, 0), (19, .isub, 20, 0), (20, .iconst 4, 21, 0), (21, .idiv, 22, 0), (22, .iload_n 1, 23, 0), (23, .bipush 10, 25, 0), (25, .isub, 26, 0), (26, .iconst 4, 27, 0), (27, .irem, 28, 0), (28, .invokevirtual 100, 31, 0), (31, .ireturn, 32, 0), (32, .iload_n 1, 33, 0), (33, .tableswitch 63 0 3 #[31, 39, 47, 55], 64, 0), (64, .aload_n 0, 65, 0), (65, .getfield 10, 68, 0), (68, .getfield 71, 71, 0), (71, .ireturn, 72, 0), (72, .aload_n 0, 73, 0), (73, .getfield 27, 76, 0), (76, .getfield 116, 79, 0), (79, .ireturn, 80, 0), (80, .aload_n 0, 81, 0), (81, .getfield 10, 84, 0), (84, .getfield 137, 87, 0), (87, .ireturn, 88, 0), (88, .aload_n 0, 89, 0), (89, .getfield 10, 92, 0), (92, .invokevirtual 106, 95, 0), (95, .ireturn, 96, 0), (96, .bipush (-2), 98, 0), (98, .ireturn, 99, 0)])
def M_X11_within : wb_MD := (yX11_within, cX11_within, 2, (some .boolean), { frames := 0, cells := 0, slots := 0, locals := 0 }, [(0, .iload_n 0, 1, 0), (1, .ifCond .lt 12, 4, 13), (4, .iload_n 0, 5, 0), (5, .iload_n 1, 6, 0), (6, .if_icmp .gt 7, 9, 13), (9, .iconst 1, 10, 0), (10, .goto 4, 13, 14), (13, .iconst 0, 14, 0), (14, .ireturn, 15, 0)])
def M_X11_isThing : wb_MD := (yX11_isThing, cX11_isThing, 1, (some .boolean), { frames := 0, cells := 0, slots := 0, locals := 0 }, [(0, .iload_n 0, 1, 0), (1, .ifCond .lt 12, 4, 13), (4, .iload_n 0, 5, 0), (5, .iconst 3, 6, 0), (6, .if_icmp .ge 7, 9, 13), (9, .iconst 1, 10, 0), (10, .goto 4, 13, 14), (13, .iconst 0, 14, 0), (14, .ireturn, 15, 0)])
def M_X11_isWare : wb_MD := (yX11_isWare, cX11_isWare, 1, (some .boolean), { frames := 0, cells := 0, slots := 0, locals := 0 }, [(0, .iload_n 0, 1, 0), (1, .ifCond .lt 12, 4, 13), (4, .iload_n 0, 5, 0), (5, .iconst 2, 6, 0), (6, .if_icmp .ge 7, 9, 13), (9, .iconst 1, 10, 0), (10, .goto 4, 13, 14), (13, .iconst 0, 14, 0), (14, .ireturn, 15, 0)])
def M_X11_isMixture : wb_MD := (yX11_isMixture, cX11_isMixture, 1, (some .boolean), { frames := 0, cells := 0, slots := 0, locals := 0 }, [(0, .iload_n 0, 1, 0), (1, .ifCond .lt 14, 4, 15), (4, .iload_n 0, 5, 0), (5, .sipush 15625, 8, 0), (8, .if_icmp .ge 7, 11, 15), (11, .iconst 1, 12, 0), (12, .goto 4, 15, 16), (15, .iconst 0, 16, 0), (16, .ireturn, 17, 0)])
def M_X11_isMonth : wb_MD := (yX11_isMonth, cX11_isMonth, 2, (some .boolean), { frames := 0, cells := 0, slots := 0, locals := 0 }, [(0, .iload_n 1, 1, 0), (1, .ifCond .lt 18, 4, 19), (4, .iload_n 1, 5, 0), (5, .aload_n 0, 6, 0), (6, .getfield 10, 9, 0), (9, .getfield 71, 12, 0), (12, .if_icmp .ge 7, 15, 19), (15, .iconst 1, 16, 0), (16, .goto 4, 19, 20), (19, .iconst 0, 20, 0), (20, .ireturn, 21, 0)])
def M_X11_amountIn : wb_MD := (yX11_amountIn, cX11_amountIn, 2, (some .int), { frames := 0, cells := 0, slots := 0, locals := 0 }, [(0, .iload_n 1, 1, 0), (1, .ifCond .ne 12, 4, 13), (4, .iload_n 0, 5, 0), (5, .bipush 25, 7, 0), (7, .idiv, 8, 0), (8, .iconst 5, 9, 0), (9, .irem, 10, 0), (10, .goto 19, 13, 29), (13, .iload_n 1, 14, 0), (14, .iconst 1, 15, 0), (15, .if_icmp .ne 11, 18, 26), (18, .iload_n 0, 19, 0), (19, .iconst 5, 20, 0), (20, .idiv, 21, 0), (21, .iconst 5, 22, 0), (22, .irem, 23, 0), (23, .goto 6, 26, 29), (26, .iload_n 0, 27, 0), (27, .iconst 5, 28, 0), (28, .irem, 29, 0), (29, .ireturn, 30, 0)])
def M_X11_pairOf : wb_MD := (yX11_pairOf, cX11_pairOf, 2, (some .int), { frames := 1, cells := 0, slots := 0, locals := 21 }, [(0, .iconst 5, 1, 0), (1, .iload_n 0, 2, 0), (2, .bipush 125, 4, 0), (4, .idiv, 5, 0), (5, .iload_n 1, 6, 0), (6, .invokestatic 274, 9, 0), (9, .imul, 10, 0), (10, .iload_n 0, 11, 0), (11, .bipush 125, 13, 0), (13, .irem, 14, 0), (14, .iload_n 1, 15, 0), (15, .invokestatic 274, 18, 0), (18, .iadd, 19, 0), (19, .ireturn, 20, 0)])
def M_X11_withPair : wb_MD := (yX11_withPair, cX11_withPair, 5, (some .int), { frames := 2, cells := 0, slots := 0, locals := 42 }, [(0, .iload_n 1, 1, 0), (1, .ifCond .ne 8, 4, 9), (4, .bipush 25, 6, 0), (6, .goto 13, 9, 19), (9, .iload_n 1, 10, 0), (10, .iconst 1, 11, 0), (11, .if_icmp .ne 7, 14, 18), (14, .iconst 5, 15, 0), (15, .goto 4, 18, 19), (18, .iconst 1, 19, 0), (19, .istore_n 3, 20, 0), (20, .iload_n 0, 21, 0), (21, .iload_n 1, 22, 0), (22, .invokestatic 277, 25, 0), (25, .istore 4, 27, 0), (27, .iload_n 0, 28, 0), (28, .iload_n 2, 29, 0), (29, .iconst 5, 30, 0), (30, .idiv, 31, 0), (31, .iload 4, 33, 0), (33, .iconst 5, 34, 0), (34, .idiv, 35, 0), (35, .isub, 36, 0), (36, .iload_n 3, 37, 0), (37, .imul, 38, 0), (38, .bipush 125, 40, 0), (40, .imul, 41, 0), (41, .iadd, 42, 0), (42, .iload_n 2, 43, 0), (43, .iconst 5, 44, 0), (44, .irem, 45, 0), (45, .iload 4, 47, 0), (47, .iconst 5, 48, 0), (48, .irem, 49, 0), (49, .isub, 50, 0), (50, .iload_n 3, 51, 0), (51, .imul, 52, 0), (52, .iadd, 53, 0), (53, .ireturn, 54, 0)])
def M_X11_thingsInPart : wb_MD := (yX11_thingsInPart, cX11_thingsInPart, 3, (some .int), { frames := 1, cells := 0, slots := 0, locals := 21 }, [(0, .iconst 0, 1, 0), (1, .istore_n 1, 2, 0), (2, .iconst 0, 3, 0), (3, .istore_n 2, 4, 0), (4, .iload_n 2, 5, 0), (5, .iconst 3, 6, 0), (6, .if_icmp .ge 25, 9, 31), (9, .iload_n 1, 10, 0), (10, .iload_n 0, 11, 0), (11, .iload_n 2, 12, 0), (12, .invokestatic 274, 15, 0), (15, .ifCond .le 7, 18, 22), (18, .iconst 1, 19, 0), (19, .goto 4, 22, 23), (22, .iconst 0, 23, 0), (23, .iadd, 24, 0), (24, .istore_n 1, 25, 0), (25, .iinc 2 1, 28, 0), (28, .goto (-24), 31, 4), (31, .iload_n 1, 32, 0), (32, .ireturn, 33, 0)])
def M_X11_lowestPlace : wb_MD := (yX11_lowestPlace, cX11_lowestPlace, 2, (some .int), { frames := 1, cells := 0, slots := 0, locals := 21 }, [(0, .lload_n 0, 1, 0), (1, .lload_n 0, 2, 0), (2, .lneg, 3, 0), (3, .land, 4, 0), (4, .lconst 1, 5, 0), (5, .lsub, 6, 0), (6, .invokestatic 280, 9, 0), (9, .ireturn, 10, 0)])
def M_X11_highestPlace : wb_MD := (yX11_highestPlace, cX11_highestPlace, 3, (some .int), { frames := 0, cells := 0, slots := 0, locals := 0 }, [(0, .iconst 0, 1, 0), (1, .istore_n 1, 2, 0), (2, .iconst 0, 3, 0), (3, .istore_n 2, 4, 0), (4, .iload_n 2, 5, 0), (5, .bipush 31, 7, 0), (7, .if_icmp .ge 19, 10, 26), (10, .iload_n 0, 11, 0), (11, .iload_n 2, 12, 0), (12, .ishr, 13, 0), (13, .iconst 1, 14, 0), (14, .iand, 15, 0), (15, .ifCond .eq 5, 18, 20), (18, .iload_n 2, 19, 0), (19, .istore_n 1, 20, 0), (20, .iinc 2 1, 23, 0), (23, .goto (-19), 26, 4), (26, .iload_n 1, 27, 0), (27, .ireturn, 28, 0)])
def M_X11_endOfNeeds : wb_MD := (yX11_endOfNeeds, cX11_endOfNeeds, 7, (some .int), { frames := 1, cells := 0, slots := 0, locals := 21 }, [(0, .iconst (-1), 1, 0), (1, .istore 4, 3, 0), (3, .iconst 0, 4, 0), (4, .istore 5, 6, 0), (6, .iload 5, 8, 0), (8, .bipush 25, 10, 0), (10, .if_icmp .ge 66, 13, 76), (13, .iload_n 0, 14, 0), (14, .iload 5, 16, 0), (16, .ishr, 17, 0), (17, .iconst 1, 18, 0), (18, .iand, 19, 0), (19, .ifCond .eq 51, 22, 70), (22, .iload_n 1, 23, 0), (23, .iload 5, 25, 0), (25, .iconst 5, 26, 0), (26, .idiv, 27, 0), (27, .imul, 28, 0), (28, .iload_n 2, 29, 0), (29, .iload 5, 31, 0), (31, .iconst 5, 32, 0), (32, .irem, 33, 0), (33, .imul, 34, 0), (34, .iadd, 35, 0), (35, .istore 6, 37, 0), (37, .iload 4, 39, 0), (39, .ifCond .ge 8, 42, 47), (42, .iload 6, 44, 0), (44, .goto 24, 47, 68), (47, .iload_n 3, 48, 0), (48, .ifCond .ne 13, 51, 61), (51, .iload 4, 53, 0), (53, .iload 6, 55, 0), (55, .invokestatic 285, 58, 0), (58, .goto 10, 61, 68), (61, .iload 4, 63, 0), (63, .iload 6, 65, 0), (65, .invokestatic 290, 68, 0), (68, .istore 4, 70, 0), (70, .iinc 5 1, 73, 0), (73, .goto (-67), 76, 6), (76, .iload 4, 78, 0), (78, .ireturn, 79, 0)])
def M_X11_spanOf : wb_MD := (yX11_spanOf, cX11_spanOf, 2, (some .int), { frames := 0, cells := 0, slots := 0, locals := 0 }, [(0, .iload_n 0, 1, 0), (1, .iload_n 1, 2, 0), (2, .if_icmp .gt 13, 5, 15), (5, .iload_n 0, 6, 0), (6, .sipush 256, 9, 0), (9, .iload_n 1, 10, 0), (10, .imul, 11, 0), (11, .iadd, 12, 0), (12, .goto 4, 15, 16), (15, .iconst (-1), 16, 0), (16, .ireturn, 17, 0)])
def M_X11_lowOf : wb_MD := (yX11_lowOf, cX11_lowOf, 1, (some .int), { frames := 0, cells := 0, slots := 0, locals := 0 }, [(0, .iload_n 0, 1, 0), (1, .sipush 255, 4, 0), (4, .iand, 5, 0), (5, .ireturn, 6, 0)])
def M_X11_highOf : wb_MD := (yX11_highOf, cX11_highOf, 1, (some .int), { frames := 0, cells := 0, slots := 0, locals := 0 }, [(0, .iload_n 0, 1, 0), (1, .bipush 8, 3, 0), (3, .ishr, 4, 0), (4, .ireturn, 5, 0)])
def M_X12_init : wb_MD := (yX12_init, cX12_init, 2, none, { frames := 1, cells := 11, slots := 81091, locals := 20 }, [(0, .aload_n 0, 1, 0), (1, .invokespecial 1, 4, 0), (4, .aload_n 0, 5, 0), (5, .bipush 72, 7, 0), (7, .newarray .int, 9, 0), (9, .putfield 7, 12, 0), (12, .aload_n 0, 13, 0), (13, .bipush 12, 15, 0), (15, .newarray .int, 17, 0), (17, .putfield 13, 20, 0), (20, .aload_n 0, 21, 0), (21, .bipush (-6), 23, 0), (23, .putfield 16, 26, 0), (26, .aload_n 0, 27, 0), (27, .bipush (-6), 29, 0), (29, .putfield 20, 32, 0), (32, .aload_n 0, 33, 0), (33, .bipush 50, 35, 0), (35, .newarray .int, 37, 0), (37, .putfield 23, 40, 0), (40, .aload_n 0, 41, 0), (41, .bipush 50, 43, 0), (43, .newarray .int, 45, 0), (45, .putfield 26, 48, 0), (48, .aload_n 0, 49, 0), (49, .bipush (-6), 51, 0), (51, .putfield 29, 54, 0), (54, .aload_n 0, 55, 0), (55, .sipush 1875, 58, 0), (58, .newarray .boolean, 60, 0), (60, .putfield 32, 63, 0), (63, .aload_n 0, 64, 0), (64, .sipush 15625, 67, 0), (67, .newarray .boolean, 69, 0), (69, .putfield 36, 72, 0), (72, .aload_n 0, 73, 0), (73, .sipush 15625, 76, 0), (76, .newarray .boolean, 78, 0), (78, .putfield 39, 81, 0), (81, .aload_n 0, 82, 0), (82, .ldc 42, 84, 0), (84, .newarray .byte, 86, 0), (86, .putfield 43, 89, 0), (89, .aload_n 0, 90, 0), (90, .sipush 625, 93, 0), (93, .newarray .int, 95, 0), (95, .putfield 47, 98, 0), (98, .aload_n 0, 99, 0), (99, .sipush 280, 102, 0), (102, .newarray .int, 104, 0), (104, .putfield 50, 107, 0), (107, .aload_n 0, 108, 0), (108, .iconst 2, 109, 0), (109, .newarray .boolean, 111, 0), (111, .putfield 53, 114, 0), (114, .iconst 0, 115, 0), (115, .istore_n 1, 116, 0), (116, .iload_n 1, 117, 0), (117, .iconst 3, 118, 0), (118, .if_icmp .ge 22, 121, 140), (121, .aload_n 0, 122, 0), (122, .getfield 13, 125, 0), (125, .iconst 4, 126, 0), (126, .iload_n 1, 127, 0), (127, .imul, 128, 0), (128, .iconst 2, 129, 0), (129, .iadd, 130, 0), (130, .sipush 199, 133, 0), (133, .iastore, 134, 0), (134, .iinc 1 1, 137, 0), (137, .goto (-21), 140, 116), (140, .return_, 141, 0)])
def M_X12_in : wb_MD := (yX12_in, cX12_in, 3, (some .boolean), { frames := 0, cells := 0, slots := 0, locals := 0 }, [(0, .iload_n 0, 1, 0), (1, .iload_n 1, 2, 0), (2, .if_icmp .lt 12, 5, 14), (5, .iload_n 0, 6, 0), (6, .iload_n 2, 7, 0), (7, .if_icmp .gt 7, 10, 14), (10, .iconst 1, 11, 0), (11, .goto 4, 14, 15), (14, .iconst 0, 15, 0), (15, .ireturn, 16, 0)])
def M_X12_isThing : wb_MD := (yX12_isThing, cX12_isThing, 1, (some .boolean), { frames := 1, cells := 0, slots := 0, locals := 22 }, [(0, .iload_n 0, 1, 0), (1, .iconst 0, 2, 0), (2, .iconst 2, 3, 0), (3, .invokestatic 56, 6, 0), (6, .ireturn, 7, 0)])
def M_X12_isMonth : wb_MD := (yX12_isMonth, cX12_isMonth, 2, (some .boolean), { frames := 1, cells := 0, slots := 0, locals := 22 }, [(0, .iload_n 1, 1, 0), (1, .iconst 0, 2, 0), (2, .aload_n 0, 3, 0), (3, .getfield 60, 6, 0), (6, .iconst 1, 7, 0), (7, .isub, 8, 0), (8, .invokestatic 56, 11, 0), (11, .ireturn, 12, 0)])
def M_X12_isMixture : wb_MD := (yX12_isMixture, cX12_isMixture, 1, (some .boolean), { frames := 1, cells := 0, slots := 0, locals := 22 }, [(0, .iload_n 0, 1, 0), (1, .iconst 0, 2, 0), (2, .sipush 15624, 5, 0), (5, .invokestatic 56, 8, 0), (8, .ireturn, 9, 0)])
def M_X12_mostOf : wb_MD := (yX12_mostOf, cX12_mostOf, 1, (some .int), { frames := 0, cells := 0, slots := 0, locals := 0 }, [(0, .iload_n 0, 1, 0), (1, .iconst 3, 2, 0), (2, .if_icmp .ne 7, 5, 9), (5, .iconst 5, 6, 0), (6, .goto 20, 9, 26), (9, .iload_n 0, 10, 0), (10, .iconst 4, 11, 0), (11, .if_icmp .eq 8, 14, 19), (14, .iload_n 0, 15, 0), (15, .iconst 5, 16, 0), (16, .if_icmp .ne 8, 19, 24), (19, .bipush 20, 21, 0), (21, .goto 5, 24, 26), (24, .bipush 99, 26, 0), (26, .ireturn, 27, 0)])
def M_X12_month : wb_MD := (yX12_month, cX12_month, 8, (some .int), { frames := 1, cells := 0, slots := 0, locals := 22 }, [(0, .iload_n 1, 1, 0), (1, .iconst 0, 2, 0), (2, .bipush 99, 4, 0), (4, .invokestatic 56, 7, 0), (7, .ifCond .eq 55, 10, 62), (10, .iload_n 2, 11, 0), (11, .iconst 0, 12, 0), (12, .bipush 99, 14, 0), (14, .invokestatic 56, 17, 0), (17, .ifCond .eq 45, 20, 62), (20, .iload_n 3, 21, 0), (21, .iconst 0, 22, 0), (22, .bipush 99, 24, 0), (24, .invokestatic 56, 27, 0), (27, .ifCond .eq 35, 30, 62), (30, .iload 4, 32, 0), (32, .iconst 0, 33, 0), (33, .iconst 5, 34, 0), (34, .invokestatic 56, 37, 0), (37, .ifCond .eq 25, 40, 62), (40, .iload 5, 42, 0), (42, .iconst 0, 43, 0), (43, .bipush 20, 45, 0), (45, .invokestatic 56, 48, 0), (48, .ifCond .eq 14, 51, 62), (51, .iload 6, 53, 0), (53, .iconst 0, 54, 0), (54, .bipush 20, 56, 0), (56, .invokestatic 56, 59, 0), (59, .ifCond .ne 6, 62, 65), (62, .bipush (-2), 64, 0), (64, .ireturn, 65, 0), (65, .aload_n 0, 66, 0), (66, .getfield 60, 69, 0), (69, .bipush 8, 71, 0), (71, .if_icmp .ne 6, 74, 77), (74, .bipush (-4), 76, 0), (76, .ireturn, 77, 0), (77, .bipush 9, 79, 0), (79, .aload_n 0, 80, 0), (80, .getfield 60, 83, 0), (83, .imul, 84, 0), (84, .istore 7, 86, 0), (86, .aload_n 0, 87, 0), (87, .getfield 7, 90, 0), (90, .iload 7, 92, 0), (92, .iload_n 1, 93, 0), (93, .iastore, 94, 0), (94, .aload_n 0, 95, 0), (95, .getfield 7, 98, 0), (98, .iload 7, 100, 0), (100, .iconst 1, 101, 0), (101, .iadd, 102, 0), (102, .iload_n 2, 103, 0), (103, .iastore, 104, 0), (104, .aload_n 0, 105, 0), (105, .getfield 7, 108, 0), (108, .iload 7, 110, 0), (110, .iconst 2, 111, 0), (111, .iadd, 112, 0), (112, .iload_n 3, 113, 0), (113, .iastore, 114, 0), (114, .aload_n 0, 115, 0), (115, .getfield 7, 118, 0), (118, .iload 7, 120, 0), (120, .iconst 3, 121, 0), (121, .iadd, 122, 0), (122, .iload 4, 124, 0), (124, .iastore, 125, 0), (125, .aload_n 0, 126, 0), (126, .getfield 7, 129, 0), (129, .iload 7, 131, 0), (131, .iconst 4, 132, 0), (132, .iadd, 133, 0), (133, .iload 5, 135, 0), (135, .iastore, 136, 0), (136, .aload_n 0, 137, 0), (137, .getfield 7, 140, 0), (140, .iload 7, 142, 0), (142, .iconst 5, 143, 0), (143, .iadd, 144, 0), (144, .iload 6, 146, 0), (146, .iastore, 147, 0), (147, .aload_n 0, 148, 0), (148, .getfield 7, 151, 0), (151, .iload 7, 153, 0), (153, .bipush 6, 155, 0), (155, .iadd, 156, 0), (156, .iconst 0, 157, 0), (157, .iastore, 158, 0), (158, .aload_n 0, 159, 0), (159, .getfield 7, 162, 0), (162, .iload 7, 164, 0), (164, .bipush 7, 166, 0), (166, .iadd, 167, 0), (167, .iconst 0, 168, 0), (168, .iastore, 169, 0), (169, .aload_n 0, 170, 0), (170, .getfield 7, 173, 0), (173, .iload 7, 175, 0), (175, .bipush 8, 177, 0), (177, .iadd, 178, 0), (178, .iconst 0, 179, 0), (179, .iastore, 180, 0), (180, .aload_n 0, 181, 0), (181, .dup, 182, 0), (182, .getfield 60, 185, 0), (185, .iconst 1, 186, 0), (186, .iadd, 187, 0), (187, .putfield 60, 190, 0), (190, .aload_n 0, 191, 0), (191, .iconst 0, 192, 0), (192, .putfield 63, 195, 0), (195, .aload_n 0, 196, 0), (196, .getfield 60, 199, 0), (199, .iconst 1, 200, 0), (200, .isub, 201, 0), (201, .ireturn, 202, 0)])
def M_X12_change : wb_MD := (yX12_change, cX12_change, 5, (some .int), { frames := 2, cells := 0, slots := 0, locals := 43 }, [(0, .aload_n 0, 1, 0), (1, .iload_n 1, 2, 0), (2, .invokevirtual 67, 5, 0), (5, .ifCond .ne 5, 8, 10), (8, .iconst (-1), 9, 0), (9, .ireturn, 10, 0), (10, .iload_n 2, 11, 0), (11, .iconst 0, 12, 0), (12, .bipush 8, 14, 0), (14, .invokestatic 56, 17, 0), (17, .ifCond .eq 15, 20, 32), (20, .iload_n 3, 21, 0), (21, .iconst 0, 22, 0), (22, .iload_n 2, 23, 0), (23, .invokestatic 71, 26, 0), (26, .invokestatic 56, 29, 0), (29, .ifCond .ne 6, 32, 35), (32, .bipush (-2), 34, 0), (34, .ireturn, 35, 0), (35, .aload_n 0, 36, 0), (36, .getfield 7, 39, 0), (39, .bipush 9, 41, 0), (41, .iload_n 1, 42, 0), (42, .imul, 43, 0), (43, .iload_n 2, 44, 0), (44, .iadd, 45, 0), (45, .iaload, 46, 0), (46, .istore 4, 48, 0), (48, .aload_n 0, 49, 0), (49, .getfield 7, 52, 0), (52, .bipush 9, 54, 0), (54, .iload_n 1, 55, 0), (55, .imul, 56, 0), (56, .iload_n 2, 57, 0), (57, .iadd, 58, 0), (58, .iload_n 3, 59, 0), (59, .iastore, 60, 0), (60, .aload_n 0, 61, 0), (61, .iconst 0, 62, 0), (62, .putfield 63, 65, 0), (65, .iload 4, 67, 0), (67, .ireturn, 68, 0)])
def M_X12_about : wb_MD := (yX12_about, cX12_about, 3, (some .int), { frames := 2, cells := 0, slots := 0, locals := 43 }, [(0, .aload_n 0, 1, 0), (1, .iload_n 1, 2, 0), (2, .invokevirtual 67, 5, 0), (5, .ifCond .ne 5, 8, 10), (8, .iconst (-1), 9, 0), (9, .ireturn, 10, 0), (10, .iload_n 2, 11, 0), (11, .iconst 0, 12, 0), (12, .bipush 8, 14, 0), (14, .invokestatic 56, 17, 0), (17, .ifCond .eq 17, 20, 34), (20, .aload_n 0, 21, 0), (21, .getfield 7, 24, 0), (24, .bipush 9, 26, 0), (26, .iload_n 1, 27, 0), (27, .imul, 28, 0), (28, .iload_n 2, 29, 0), (29, .iadd, 30, 0), (30, .iaload, 31, 0), (31, .goto 5, 34, 36), (34, .bipush (-2), 36, 0), (36, .ireturn, 37, 0)])
def M_X12_tear : wb_MD := (yX12_tear, cX12_tear, 1, (some .int), { frames := 0, cells := 0, slots := 0, locals := 0 }, [(0, .aload_n 0, 1, 0), (1, .getfield 60, 4, 0), (4, .ifCond .ne 6, 7, 10), (7, .bipush (-5), 9, 0), (9, .ireturn, 10, 0), (10, .aload_n 0, 11, 0), (11, .dup, 12, 0), (12, .getfield 60, 15, 0), (15, .iconst 1, 16, 0), (16, .isub, 17, 0), (17, .putfield 60, 20, 0), (20, .aload_n 0, 21, 0), (21, .iconst 0, 22, 0), (22, .putfield 63, 25, 0), (25, .aload_n 0, 26, 0), (26, .getfield 60, 29, 0), (29, .ireturn, 30, 0)])
def M_X12_stock : wb_MD := (yX12_stock, cX12_stock, 5, (some .int), { frames := 2, cells := 0, slots := 0, locals := 42 }, [(0, .iload_n 1, 1, 0), (1, .invokestatic 75, 4, 0), (4, .ifCond .ne 5, 7, 9), (7, .iconst (-1), 8, 0), (8, .ireturn, 9, 0), (9, .iload_n 2, 10, 0), (10, .iconst 0, 11, 0), (11, .iconst 3, 12, 0), (12, .invokestatic 56, 15, 0), (15, .ifCond .eq 33, 18, 48), (18, .iload_n 3, 19, 0), (19, .iconst 0, 20, 0), (20, .iload_n 2, 21, 0), (21, .iconst 2, 22, 0), (22, .if_icmp .ge 8, 25, 30), (25, .bipush 99, 27, 0), (27, .goto 15, 30, 42), (30, .iload_n 2, 31, 0), (31, .iconst 2, 32, 0), (32, .if_icmp .ne 9, 35, 41), (35, .sipush 199, 38, 0), (38, .goto 4, 41, 42), (41, .iconst 5, 42, 0), (42, .invokestatic 56, 45, 0), (45, .ifCond .ne 6, 48, 51), (48, .bipush (-2), 50, 0), (50, .ireturn, 51, 0), (51, .iload_n 2, 52, 0), (52, .ifCond .ne 17, 55, 69), (55, .iload_n 3, 56, 0), (56, .aload_n 0, 57, 0), (57, .getfield 13, 60, 0), (60, .iconst 4, 61, 0), (61, .iload_n 1, 62, 0), (62, .imul, 63, 0), (63, .iconst 1, 64, 0), (64, .iadd, 65, 0), (65, .iaload, 66, 0), (66, .if_icmp .gt 20, 69, 86), (69, .iload_n 2, 70, 0), (70, .iconst 1, 71, 0), (71, .if_icmp .ne 18, 74, 89), (74, .iload_n 3, 75, 0), (75, .aload_n 0, 76, 0), (76, .getfield 13, 79, 0), (79, .iconst 4, 80, 0), (80, .iload_n 1, 81, 0), (81, .imul, 82, 0), (82, .iaload, 83, 0), (83, .if_icmp .ge 6, 86, 89), (86, .bipush (-2), 88, 0), (88, .ireturn, 89, 0), (89, .aload_n 0, 90, 0), (90, .getfield 13, 93, 0), (93, .iconst 4, 94, 0), (94, .iload_n 1, 95, 0), (95, .imul, 96, 0), (96, .iload_n 2, 97, 0), (97, .iadd, 98, 0), (98, .iaload, 99, 0), (99, .istore 4, 101, 0), (101, .aload_n 0, 102, 0), (102, .getfield 13, 105, 0), (105, .iconst 4, 106, 0), (106, .iload_n 1, 107, 0), (107, .imul, 108, 0), (108, .iload_n 2, 109, 0), (109, .iadd, 110, 0), (110, .iload_n 3, 111, 0), (111, .iastore, 112, 0), (112, .aload_n 0, 113, 0), (113, .iconst 0, 114, 0), (114, .putfield 63, 117, 0), (117, .iload 4, 119, 0), (119, .ireturn, 120, 0)])
def M_X12_standOf : wb_MD := (yX12_standOf, cX12_standOf, 1, (some .int), { frames := 0, cells := 0, slots := 0, locals := 0 }, [(0, .aload_n 0, 1, 0), (1, .getfield 16, 4, 0), (4, .ifCond .ge 8, 7, 12), (7, .bipush (-6), 9, 0), (9, .goto 15, 12, 24), (12, .bipush 10, 14, 0), (14, .aload_n 0, 15, 0), (15, .getfield 16, 18, 0), (18, .imul, 19, 0), (19, .aload_n 0, 20, 0), (20, .getfield 20, 23, 0), (23, .iadd, 24, 0), (24, .ireturn, 25, 0)])
def M_X12_stand : wb_MD := (yX12_stand, cX12_stand, 5, (some .int), { frames := 2, cells := 0, slots := 0, locals := 42 }, [(0, .iload_n 1, 1, 0), (1, .iconst (-1), 2, 0), (2, .if_icmp .ne 12, 5, 14), (5, .iload_n 2, 6, 0), (6, .iconst (-1), 7, 0), (7, .if_icmp .ne 7, 10, 14), (10, .iconst 1, 11, 0), (11, .goto 4, 14, 15), (14, .iconst 0, 15, 0), (15, .istore_n 3, 16, 0), (16, .iload_n 3, 17, 0), (17, .ifCond .ne 24, 20, 41), (20, .iload_n 1, 21, 0), (21, .invokestatic 75, 24, 0), (24, .ifCond .eq 15, 27, 39), (27, .iload_n 2, 28, 0), (28, .invokestatic 75, 31, 0), (31, .ifCond .eq 8, 34, 39), (34, .iload_n 1, 35, 0), (35, .iload_n 2, 36, 0), (36, .if_icmp .ne 5, 39, 41), (39, .iconst (-1), 40, 0), (40, .ireturn, 41, 0), (41, .aload_n 0, 42, 0), (42, .invokevirtual 78, 45, 0), (45, .istore 4, 47, 0), (47, .aload_n 0, 48, 0), (48, .iload_n 3, 49, 0), (49, .ifCond .eq 8, 52, 57), (52, .bipush (-6), 54, 0), (54, .goto 4, 57, 58), (57, .iload_n 1, 58, 0), (58, .putfield 16, 61, 0), (61, .aload_n 0, 62, 0), (62, .iload_n 3, 63, 0), (63, .ifCond .eq 8, 66, 71), (66, .bipush (-6), 68, 0), (68, .goto 4, 71, 72), (71, .iload_n 2, 72, 0), (72, .putfield 20, 75, 0), (75, .aload_n 0, 76, 0), (76, .iconst 0, 77, 0), (77, .putfield 63, 80, 0), (80, .iload 4, 82, 0), (82, .ireturn, 83, 0)])
def M_X12_say : wb_MD := (yX12_say, cX12_say, 2, (some .int), { frames := 1, cells := 0, slots := 0, locals := 22 }, [(0, .iload_n 1, 1, 0), (1, .bipush 33, 3, 0), (3, .bipush 126, 5, 0), (5, .invokestatic 56, 8, 0), (8, .ifCond .ne 6, 11, 14), (11, .bipush (-2), 13, 0), (13, .ireturn, 14, 0), (14, .aload_n 0, 15, 0), (15, .getfield 82, 18, 0), (18, .bipush 50, 20, 0), (20, .if_icmp .ne 6, 23, 26), (23, .bipush (-4), 25, 0), (25, .ireturn, 26, 0), (26, .aload_n 0, 27, 0), (27, .getfield 23, 30, 0), (30, .aload_n 0, 31, 0), (31, .getfield 82, 34, 0), (34, .iload_n 1, 35, 0), (35, .iastore, 36, 0), (36, .aload_n 0, 37, 0), (37, .dup, 38, 0), (38, .getfield 82, 41, 0), (41, .iconst 1, 42, 0), (42, .iadd, 43, 0), (43, .putfield 82, 46, 0), (46, .aload_n 0, 47, 0), (47, .getfield 82, 50, 0), (50, .ireturn, 51, 0)])
def M_X12_wipe : wb_MD := (yX12_wipe, cX12_wipe, 2, (some .int), { frames := 0, cells := 0, slots := 0, locals := 0 }, [(0, .aload_n 0, 1, 0), (1, .getfield 82, 4, 0), (4, .istore_n 1, 5, 0), (5, .aload_n 0, 6, 0), (6, .iconst 0, 7, 0), (7, .putfield 82, 10, 0), (10, .iload_n 1, 11, 0), (11, .ireturn, 12, 0)])
def M_X12_faultOf : wb_MD := (yX12_faultOf, cX12_faultOf, 5, (some .int), { frames := 1, cells := 0, slots := 0, locals := 22 }, [(0, .iconst 0, 1, 0), (1, .istore_n 1, 2, 0), (2, .iconst 0, 3, 0), (3, .istore_n 2, 4, 0), (4, .iload_n 2, 5, 0), (5, .aload_n 0, 6, 0), (6, .getfield 82, 9, 0), (9, .if_icmp .ge 172, 12, 181), (12, .aload_n 0, 13, 0), (13, .getfield 23, 16, 0), (16, .iload_n 2, 17, 0), (17, .iaload, 18, 0), (18, .istore_n 3, 19, 0), (19, .bipush (-6), 21, 0), (21, .istore 4, 23, 0), (23, .iload_n 1, 24, 0), (24, .ifCond .ne 26, 27, 50), (27, .iload_n 3, 28, 0), (28, .bipush 112, 30, 0), (30, .if_icmp .eq 9, 33, 39), (33, .iload_n 3, 34, 0), (34, .bipush 113, 36, 0), (36, .if_icmp .ne 7, 39, 43), (39, .iconst 1, 40, 0), (40, .goto 5, 43, 45), (43, .bipush (-6), 45, 0), (45, .istore 4, 47, 0), (47, .goto 118, 50, 165), (50, .iload_n 1, 51, 0), (51, .iconst 1, 52, 0), (52, .if_icmp .ne 25, 55, 77), (55, .iload_n 3, 56, 0), (56, .bipush 97, 58, 0), (58, .bipush 99, 60, 0), (60, .invokestatic 56, 63, 0), (63, .ifCond .eq 7, 66, 70), (66, .iconst 2, 67, 0), (67, .goto 5, 70, 72), (70, .bipush (-6), 72, 0), (72, .istore 4, 74, 0), (74, .goto 91, 77, 165), (77, .iload_n 1, 78, 0), (78, .iconst 2, 79, 0), (79, .if_icmp .ne 42, 82, 121), (82, .iload_n 3, 83, 0), (83, .bipush 43, 85, 0), (85, .if_icmp .ne 7, 88, 92), (88, .iconst 0, 89, 0), (89, .goto 27, 92, 116), (92, .iload_n 3, 93, 0), (93, .bipush 60, 95, 0), (95, .if_icmp .eq 15, 98, 110), (98, .iload_n 3, 99, 0), (99, .bipush 62, 101, 0), (101, .if_icmp .eq 9, 104, 110), (104, .iload_n 3, 105, 0), (105, .bipush 61, 107, 0), (107, .if_icmp .ne 7, 110, 114), (110, .iconst 3, 111, 0), (111, .goto 5, 114, 116), (114, .bipush (-6), 116, 0), (116, .istore 4, 118, 0), (118, .goto 47, 121, 165), (121, .iload_n 1, 122, 0), (122, .iconst 5, 123, 0), (123, .if_icmp .ge 22, 126, 145), (126, .iload_n 3, 127, 0), (127, .bipush 48, 129, 0), (129, .bipush 57, 131, 0), (131, .invokestatic 56, 134, 0), (134, .ifCond .eq 11, 137, 145), (137, .iload_n 1, 138, 0), (138, .iconst 1, 139, 0), (139, .iadd, 140, 0), (140, .istore 4, 142, 0), (142, .goto 23, 145, 165), (145, .iload_n 1, 146, 0), (146, .iconst 3, 147, 0), (147, .if_icmp .le 18, 150, 165), (150, .iload_n 3, 151, 0), (151, .bipush 38, 153, 0), (153, .if_icmp .eq 9, 156, 162), (156, .iload_n 3, 157, 0), (157, .bipush 124, 159, 0), (159, .if_icmp .ne 6, 162, 165), (162, .iconst 0, 163, 0), (163, .istore 4, 165, 0), (165, .iload 4, 167, 0), (167, .ifCond .ge 5, 170, 172), (170, .iload_n 2, 171, 0), (171, .ireturn, 172, 0), (172, .iload 4, 174, 0), (174, .istore_n 1, 175, 0), (175, .iinc 2 1, 178, 0), (178, .goto (-174), 181, 4), (181, .iload_n 1, 182, 0), (182, .iconst 3, 183, 0), (183, .if_icmp .le 8, 186, 191), (186, .bipush (-6), 188, 0), (188, .goto 7, 191, 195), (191, .aload_n 0, 192, 0), (192, .getfield 82, 195, 0), (195, .ireturn, 196, 0)])
def M_X12_fault : wb_MD := (yX12_fault, cX12_fault, 1, (some .int), { frames := 2, cells := 0, slots := 0, locals := 46 }, [(0, .aload_n 0, 1, 0), (1, .invokevirtual 85, 4, 0), (4, .ireturn, 5, 0)])
def M_X12_boths : wb_MD := (yX12_boths, cX12_boths, 3, (some .int), { frames := 0, cells := 0, slots := 0, locals := 0 }, [(0, .aload_n 0, 1, 0), (1, .getfield 88, 4, 0), (4, .ifCond .le 7, 7, 11), (7, .iconst 1, 8, 0), (8, .goto 4, 11, 12), (11, .iconst 0, 12, 0), (12, .istore_n 1, 13, 0), (13, .iconst 0, 14, 0), (14, .istore_n 2, 15, 0), (15, .iload_n 2, 16, 0), (16, .aload_n 0, 17, 0), (17, .getfield 88, 20, 0), (20, .if_icmp .ge 28, 23, 48), (23, .iload_n 1, 24, 0), (24, .aload_n 0, 25, 0), (25, .getfield 26, 28, 0), (28, .iload_n 2, 29, 0), (29, .iaload, 30, 0), (30, .bipush 124, 32, 0), (32, .if_icmp .ne 7, 35, 39), (35, .iconst 1, 36, 0), (36, .goto 4, 39, 40), (39, .iconst 0, 40, 0), (40, .iadd, 41, 0), (41, .istore_n 1, 42, 0), (42, .iinc 2 1, 45, 0), (45, .goto (-30), 48, 15), (48, .iload_n 1, 49, 0), (49, .ireturn, 50, 0)])
def M_X12_rule : wb_MD := (yX12_rule, cX12_rule, 2, (some .int), { frames := 2, cells := 0, slots := 0, locals := 46 }, [(0, .aload_n 0, 1, 0), (1, .invokevirtual 85, 4, 0), (4, .ifCond .lt 6, 7, 10), (7, .bipush (-5), 9, 0), (9, .ireturn, 10, 0), (10, .aload_n 0, 11, 0), (11, .aload_n 0, 12, 0), (12, .getfield 82, 15, 0), (15, .putfield 88, 18, 0), (18, .iconst 0, 19, 0), (19, .istore_n 1, 20, 0), (20, .iload_n 1, 21, 0), (21, .aload_n 0, 22, 0), (22, .getfield 82, 25, 0), (25, .if_icmp .ge 21, 28, 46), (28, .aload_n 0, 29, 0), (29, .getfield 26, 32, 0), (32, .iload_n 1, 33, 0), (33, .aload_n 0, 34, 0), (34, .getfield 23, 37, 0), (37, .iload_n 1, 38, 0), (38, .iaload, 39, 0), (39, .iastore, 40, 0), (40, .iinc 1 1, 43, 0), (43, .goto (-23), 46, 20), (46, .aload_n 0, 47, 0), (47, .iconst 0, 48, 0), (48, .putfield 82, 51, 0), (51, .aload_n 0, 52, 0), (52, .iconst 0, 53, 0), (53, .putfield 63, 56, 0), (56, .aload_n 0, 57, 0), (57, .invokevirtual 91, 60, 0), (60, .ireturn, 61, 0)])
def M_X12_free : wb_MD := (yX12_free, cX12_free, 2, (some .int), { frames := 1, cells := 0, slots := 0, locals := 22 }, [(0, .aload_n 0, 1, 0), (1, .invokevirtual 91, 4, 0), (4, .istore_n 1, 5, 0), (5, .aload_n 0, 6, 0), (6, .iconst 0, 7, 0), (7, .putfield 88, 10, 0), (10, .aload_n 0, 11, 0), (11, .iconst 0, 12, 0), (12, .putfield 63, 15, 0), (15, .iload_n 1, 16, 0), (16, .ireturn, 17, 0)])
def M_X12_digit : wb_MD := (yX12_digit, cX12_digit, 4, (some .int), { frames := 0, cells := 0, slots := 0, locals := 0 }, [(0, .iload_n 0, 1, 0), (1, .istore_n 2, 2, 0), (2, .iload_n 1, 3, 0), (3, .istore_n 3, 4, 0), (4, .iload_n 3, 5, 0), (5, .iconst 5, 6, 0), (6, .if_icmp .ge 13, 9, 19), (9, .iload_n 2, 10, 0), (10, .iconst 5, 11, 0), (11, .idiv, 12, 0), (12, .istore_n 2, 13, 0), (13, .iinc 3 1, 16, 0), (16, .goto (-12), 19, 4), (19, .iload_n 2, 20, 0), (20, .iconst 5, 21, 0), (21, .irem, 22, 0), (22, .ireturn, 23, 0)])
def M_X12_keeps : wb_MD := (yX12_keeps, cX12_keeps, 9, (some .boolean), { frames := 1, cells := 0, slots := 0, locals := 23 }, [(0, .aload_n 0, 1, 0), (1, .getfield 88, 4, 0), (4, .ifCond .ne 5, 7, 9), (7, .iconst 1, 8, 0), (8, .ireturn, 9, 0), (9, .iconst 1, 10, 0), (10, .istore_n 2, 11, 0), (11, .iconst 0, 12, 0), (12, .istore_n 3, 13, 0), (13, .iload_n 3, 14, 0), (14, .aload_n 0, 15, 0), (15, .getfield 88, 18, 0), (18, .if_icmp .ge 258, 21, 276), (21, .iconst 0, 22, 0), (22, .istore 4, 24, 0), (24, .iconst 1, 25, 0), (25, .istore 5, 27, 0), (27, .iload 5, 29, 0), (29, .ifCond .eq 77, 32, 106), (32, .iload 4, 34, 0), (34, .iload_n 1, 35, 0), (35, .aload_n 0, 36, 0), (36, .getfield 26, 39, 0), (39, .iload_n 3, 40, 0), (40, .iaload, 41, 0), (41, .bipush 112, 43, 0), (43, .if_icmp .ne 7, 46, 50), (46, .iconst 0, 47, 0), (47, .goto 4, 50, 51), (50, .iconst 3, 51, 0), (51, .aload_n 0, 52, 0), (52, .getfield 26, 55, 0), (55, .iload_n 3, 56, 0), (56, .iconst 1, 57, 0), (57, .iadd, 58, 0), (58, .iaload, 59, 0), (59, .iadd, 60, 0), (60, .bipush 97, 62, 0), (62, .isub, 63, 0), (63, .invokestatic 94, 66, 0), (66, .iadd, 67, 0), (67, .istore 4, 69, 0), (69, .iinc 3 2, 72, 0), (72, .aload_n 0, 73, 0), (73, .getfield 26, 76, 0), (76, .iload_n 3, 77, 0), (77, .iaload, 78, 0), (78, .bipush 43, 80, 0), (80, .if_icmp .ne 7, 83, 87), (83, .iconst 1, 84, 0), (84, .goto 4, 87, 88), (87, .iconst 0, 88, 0), (88, .istore 5, 90, 0), (90, .iload_n 3, 91, 0), (91, .iload 5, 93, 0), (93, .ifCond .eq 7, 96, 100), (96, .iconst 1, 97, 0), (97, .goto 4, 100, 101), (100, .iconst 0, 101, 0), (101, .iadd, 102, 0), (102, .istore_n 3, 103, 0), (103, .goto (-76), 106, 27), (106, .aload_n 0, 107, 0), (107, .getfield 26, 110, 0), (110, .iload_n 3, 111, 0), (111, .iaload, 112, 0), (112, .istore 6, 114, 0), (114, .iinc 3 1, 117, 0), (117, .iconst 0, 118, 0), (118, .istore 7, 120, 0), (120, .iload_n 3, 121, 0), (121, .aload_n 0, 122, 0), (122, .getfield 88, 125, 0), (125, .if_icmp .ge 42, 128, 167), (128, .aload_n 0, 129, 0), (129, .getfield 26, 132, 0), (132, .iload_n 3, 133, 0), (133, .iaload, 134, 0), (134, .bipush 48, 136, 0), (136, .bipush 57, 138, 0), (138, .invokestatic 56, 141, 0), (141, .ifCond .eq 26, 144, 167), (144, .bipush 10, 146, 0), (146, .iload 7, 148, 0), (148, .imul, 149, 0), (149, .aload_n 0, 150, 0), (150, .getfield 26, 153, 0), (153, .iload_n 3, 154, 0), (154, .iaload, 155, 0), (155, .iadd, 156, 0), (156, .bipush 48, 158, 0), (158, .isub, 159, 0), (159, .istore 7, 161, 0), (161, .iinc 3 1, 164, 0), (164, .goto (-44), 167, 120), (167, .iload_n 2, 168, 0), (168, .ifCond .eq 48, 171, 216), (171, .iload 6, 173, 0), (173, .bipush 60, 175, 0), (175, .if_icmp .ne 13, 178, 188), (178, .iload 4, 180, 0), (180, .iload 7, 182, 0), (182, .if_icmp .ge 34, 185, 216), (185, .goto 27, 188, 212), (188, .iload 6, 190, 0), (190, .bipush 62, 192, 0), (192, .if_icmp .ne 13, 195, 205), (195, .iload 4, 197, 0), (197, .iload 7, 199, 0), (199, .if_icmp .le 17, 202, 216), (202, .goto 10, 205, 212), (205, .iload 4, 207, 0), (207, .iload 7, 209, 0), (209, .if_icmp .ne 7, 212, 216), (212, .iconst 1, 213, 0), (213, .goto 4, 216, 217), (216, .iconst 0, 217, 0), (217, .istore_n 2, 218, 0), (218, .iload_n 3, 219, 0), (219, .aload_n 0, 220, 0), (220, .getfield 88, 223, 0), (223, .if_icmp .eq 14, 226, 237), (226, .aload_n 0, 227, 0), (227, .getfield 26, 230, 0), (230, .iload_n 3, 231, 0), (231, .iaload, 232, 0), (232, .bipush 124, 234, 0), (234, .if_icmp .ne 7, 237, 241), (237, .iconst 1, 238, 0), (238, .goto 4, 241, 242), (241, .iconst 0, 242, 0), (242, .istore 8, 244, 0), (244, .iload_n 2, 245, 0), (245, .ifCond .eq 10, 248, 255), (248, .iload 8, 250, 0), (250, .ifCond .eq 5, 253, 255), (253, .iconst 1, 254, 0), (254, .ireturn, 255, 0), (255, .iload_n 2, 256, 0), (256, .ifCond .ne 8, 259, 264), (259, .iload 8, 261, 0), (261, .ifCond .eq 7, 264, 268), (264, .iconst 1, 265, 0), (265, .goto 4, 268, 269), (268, .iconst 0, 269, 0), (269, .istore_n 2, 270, 0), (270, .iinc 3 1, 273, 0), (273, .goto (-260), 276, 13), (276, .iconst 0, 277, 0), (277, .ireturn, 278, 0)])
def M_X12_isStoodIn : wb_MD := (yX12_isStoodIn, cX12_isStoodIn, 2, (some .boolean), { frames := 0, cells := 0, slots := 0, locals := 0 }, [(0, .aload_n 0, 1, 0), (1, .getfield 16, 4, 0), (4, .ifCond .lt 44, 7, 48), (7, .aload_n 0, 8, 0), (8, .getfield 7, 11, 0), (11, .bipush 9, 13, 0), (13, .iload_n 1, 14, 0), (14, .imul, 15, 0), (15, .bipush 6, 17, 0), (17, .iadd, 18, 0), (18, .aload_n 0, 19, 0), (19, .getfield 16, 22, 0), (22, .iadd, 23, 0), (23, .iaload, 24, 0), (24, .aload_n 0, 25, 0), (25, .getfield 7, 28, 0), (28, .bipush 9, 30, 0), (30, .iload_n 1, 31, 0), (31, .imul, 32, 0), (32, .bipush 6, 34, 0), (34, .iadd, 35, 0), (35, .aload_n 0, 36, 0), (36, .getfield 20, 39, 0), (39, .iadd, 40, 0), (40, .iaload, 41, 0), (41, .if_icmp .ge 7, 44, 48), (44, .iconst 1, 45, 0), (45, .goto 4, 48, 49), (48, .iconst 0, 49, 0), (49, .ireturn, 50, 0)])
def M_X12_needOf : wb_MD := (yX12_needOf, cX12_needOf, 9, (some .int), { frames := 1, cells := 0, slots := 0, locals := 21 }, [(0, .aload_n 0, 1, 0), (1, .getfield 7, 4, 0), (4, .bipush 9, 6, 0), (6, .iload_n 2, 7, 0), (7, .imul, 8, 0), (8, .iconst 4, 9, 0), (9, .iadd, 10, 0), (10, .iaload, 11, 0), (11, .istore 5, 13, 0), (13, .aload_n 0, 14, 0), (14, .getfield 7, 17, 0), (17, .bipush 9, 19, 0), (19, .iload_n 2, 20, 0), (20, .imul, 21, 0), (21, .iconst 5, 22, 0), (22, .iadd, 23, 0), (23, .iaload, 24, 0), (24, .istore 6, 26, 0), (26, .aload_n 0, 27, 0), (27, .iload_n 2, 28, 0), (28, .invokevirtual 98, 31, 0), (31, .istore 7, 33, 0), (33, .iload 7, 35, 0), (35, .ifCond .eq 15, 38, 50), (38, .iload_n 1, 39, 0), (39, .aload_n 0, 40, 0), (40, .getfield 20, 43, 0), (43, .if_icmp .ne 7, 46, 50), (46, .iconst 0, 47, 0), (47, .goto 16, 50, 63), (50, .iload 5, 52, 0), (52, .iload_n 3, 53, 0), (53, .iconst 5, 54, 0), (54, .idiv, 55, 0), (55, .imul, 56, 0), (56, .iload 6, 58, 0), (58, .iload_n 3, 59, 0), (59, .iconst 5, 60, 0), (60, .irem, 61, 0), (61, .imul, 62, 0), (62, .iadd, 63, 0), (63, .istore 8, 65, 0), (65, .iload 8, 67, 0), (67, .iload 7, 69, 0), (69, .ifCond .eq 29, 72, 98), (72, .iload_n 1, 73, 0), (73, .aload_n 0, 74, 0), (74, .getfield 16, 77, 0), (77, .if_icmp .ne 21, 80, 98), (80, .iload 5, 82, 0), (82, .iload 4, 84, 0), (84, .iconst 5, 85, 0), (85, .idiv, 86, 0), (86, .imul, 87, 0), (87, .iload 6, 89, 0), (89, .iload 4, 91, 0), (91, .iconst 5, 92, 0), (92, .irem, 93, 0), (93, .imul, 94, 0), (94, .iadd, 95, 0), (95, .goto 4, 98, 99), (98, .iconst 0, 99, 0), (99, .iadd, 100, 0), (100, .ireturn, 101, 0)])
def M_X12_pass : wb_MD := (yX12_pass, cX12_pass, 9, (some .boolean), { frames := 0, cells := 0, slots := 0, locals := 0 }, [(0, .aload_n 0, 1, 0), (1, .getfield 7, 4, 0), (4, .bipush 9, 6, 0), (6, .iload_n 2, 7, 0), (7, .imul, 8, 0), (8, .iload_n 1, 9, 0), (9, .iadd, 10, 0), (10, .iaload, 11, 0), (11, .istore 4, 13, 0), (13, .aload_n 0, 14, 0), (14, .getfield 7, 17, 0), (17, .bipush 9, 19, 0), (19, .iload_n 2, 20, 0), (20, .imul, 21, 0), (21, .iconst 3, 22, 0), (22, .iadd, 23, 0), (23, .iaload, 24, 0), (24, .aload_n 0, 25, 0), (25, .getfield 101, 28, 0), (28, .iadd, 29, 0), (29, .istore 5, 31, 0), (31, .iload_n 2, 32, 0), (32, .aload_n 0, 33, 0), (33, .getfield 29, 36, 0), (36, .if_icmp .ne 49, 39, 85), (39, .iload_n 1, 40, 0), (40, .aload_n 0, 41, 0), (41, .getfield 104, 44, 0), (44, .if_icmp .ne 41, 47, 85), (47, .aload_n 0, 48, 0), (48, .getfield 107, 51, 0), (51, .ifCond .ge 13, 54, 64), (54, .iload 4, 56, 0), (56, .aload_n 0, 57, 0), (57, .getfield 107, 60, 0), (60, .isub, 61, 0), (61, .goto 7, 64, 68), (64, .aload_n 0, 65, 0), (65, .getfield 107, 68, 0), (68, .istore 4, 70, 0), (70, .aload_n 0, 71, 0), (71, .getfield 107, 74, 0), (74, .ifCond .ge 8, 77, 82), (77, .iload 5, 79, 0), (79, .goto 4, 82, 83), (82, .iconst 0, 83, 0), (83, .istore 5, 85, 0), (85, .aload_n 0, 86, 0), (86, .getfield 110, 89, 0), (89, .iload_n 2, 90, 0), (90, .ishr, 91, 0), (91, .iconst 1, 92, 0), (92, .iand, 93, 0), (93, .iconst 1, 94, 0), (94, .if_icmp .ne 7, 97, 101), (97, .iconst 1, 98, 0), (98, .goto 4, 101, 102), (101, .iconst 0, 102, 0), (102, .istore 6, 104, 0), (104, .iload 6, 106, 0), (106, .ifCond .ne 10, 109, 116), (109, .iload 4, 111, 0), (111, .iload 5, 113, 0), (113, .if_icmp .ge 7, 116, 120), (116, .iconst 0, 117, 0), (117, .goto 8, 120, 125), (120, .iload 4, 122, 0), (122, .iload 5, 124, 0), (124, .isub, 125, 0), (125, .istore 7, 127, 0), (127, .iload 6, 129, 0), (129, .ifCond .eq 8, 132, 137), (132, .ldc 113, 134, 0), (134, .goto 8, 137, 142), (137, .iload 4, 139, 0), (139, .iload 5, 141, 0), (141, .iadd, 142, 0), (142, .istore 8, 144, 0), (144, .aload_n 0, 145, 0), (145, .dup, 146, 0), (146, .getfield 114, 149, 0), (149, .iload 7, 151, 0), (151, .iload_n 3, 152, 0), (152, .isub, 153, 0), (153, .aload_n 0, 154, 0), (154, .getfield 13, 157, 0), (157, .iconst 4, 158, 0), (158, .iload_n 1, 159, 0), (159, .imul, 160, 0), (160, .iconst 3, 161, 0), (161, .iadd, 162, 0), (162, .iaload, 163, 0), (163, .isub, 164, 0), (164, .iadd, 165, 0), (165, .putfield 114, 168, 0), (168, .aload_n 0, 169, 0), (169, .dup, 170, 0), (170, .getfield 117, 173, 0), (173, .iload 8, 175, 0), (175, .iload_n 3, 176, 0), (176, .isub, 177, 0), (177, .iadd, 178, 0), (178, .putfield 117, 181, 0), (181, .aload_n 0, 182, 0), (182, .aload_n 0, 183, 0), (183, .getfield 114, 186, 0), (186, .ifCond .ge 7, 189, 193), (189, .iconst 0, 190, 0), (190, .goto 7, 193, 197), (193, .aload_n 0, 194, 0), (194, .getfield 114, 197, 0), (197, .putfield 114, 200, 0), (200, .aload_n 0, 201, 0), (201, .aload_n 0, 202, 0), (202, .getfield 117, 205, 0), (205, .aload_n 0, 206, 0), (206, .getfield 13, 209, 0), (209, .iconst 4, 210, 0), (210, .iload_n 1, 211, 0), (211, .imul, 212, 0), (212, .iconst 2, 213, 0), (213, .iadd, 214, 0), (214, .iaload, 215, 0), (215, .if_icmp .le 16, 218, 231), (218, .aload_n 0, 219, 0), (219, .getfield 13, 222, 0), (222, .iconst 4, 223, 0), (223, .iload_n 1, 224, 0), (224, .imul, 225, 0), (225, .iconst 2, 226, 0), (226, .iadd, 227, 0), (227, .iaload, 228, 0), (228, .goto 7, 231, 235), (231, .aload_n 0, 232, 0), (232, .getfield 117, 235, 0), (235, .putfield 117, 238, 0), (238, .aload_n 0, 239, 0), (239, .getfield 114, 242, 0), (242, .aload_n 0, 243, 0), (243, .getfield 117, 246, 0), (246, .if_icmp .gt 7, 249, 253), (249, .iconst 1, 250, 0), (250, .goto 4, 253, 254), (253, .iconst 0, 254, 0), (254, .ireturn, 255, 0)])
def M_X12_goes : wb_MD := (yX12_goes, cX12_goes, 8, (some .int), { frames := 2, cells := 0, slots := 0, locals := 49 }, [(0, .aload_n 0, 1, 0), (1, .aload_n 0, 2, 0), (2, .getfield 13, 5, 0), (5, .iconst 4, 6, 0), (6, .iload_n 1, 7, 0), (7, .imul, 8, 0), (8, .iaload, 9, 0), (9, .putfield 114, 12, 0), (12, .aload_n 0, 13, 0), (13, .aload_n 0, 14, 0), (14, .getfield 13, 17, 0), (17, .iconst 4, 18, 0), (18, .iload_n 1, 19, 0), (19, .imul, 20, 0), (20, .iconst 1, 21, 0), (21, .iadd, 22, 0), (22, .iaload, 23, 0), (23, .putfield 117, 26, 0), (26, .iconst 0, 27, 0), (27, .istore 7, 29, 0), (29, .iload 7, 31, 0), (31, .aload_n 0, 32, 0), (32, .getfield 60, 35, 0), (35, .if_icmp .ge 55, 38, 90), (38, .aload_n 0, 39, 0), (39, .iload_n 1, 40, 0), (40, .iload 7, 42, 0), (42, .aload_n 0, 43, 0), (43, .iload_n 1, 44, 0), (44, .iload 7, 46, 0), (46, .iload 7, 48, 0), (48, .iload 6, 50, 0), (50, .if_icmp .ge 7, 53, 57), (53, .iload_n 2, 54, 0), (54, .goto 4, 57, 58), (57, .iload_n 3, 58, 0), (58, .iload 7, 60, 0), (60, .iload 6, 62, 0), (62, .if_icmp .ge 8, 65, 70), (65, .iload 4, 67, 0), (67, .goto 5, 70, 72), (70, .iload 5, 72, 0), (72, .invokevirtual 120, 75, 0), (75, .invokevirtual 124, 78, 0), (78, .ifCond .ne 6, 81, 84), (81, .iload 7, 83, 0), (83, .ireturn, 84, 0), (84, .iinc 7 1, 87, 0), (87, .goto (-58), 90, 29), (90, .aload_n 0, 91, 0), (91, .getfield 60, 94, 0), (94, .ireturn, 95, 0)])
def M_X12_amount : wb_MD := (yX12_amount, cX12_amount, 2, (some .int), { frames := 1, cells := 0, slots := 0, locals := 23 }, [(0, .iconst 5, 1, 0), (1, .iload_n 0, 2, 0), (2, .iload_n 1, 3, 0), (3, .invokestatic 94, 6, 0), (6, .imul, 7, 0), (7, .iload_n 0, 8, 0), (8, .iconst 3, 9, 0), (9, .iload_n 1, 10, 0), (10, .iadd, 11, 0), (11, .invokestatic 94, 14, 0), (14, .iadd, 15, 0), (15, .ireturn, 16, 0)])
def M_X12_goesBy : wb_MD := (yX12_goesBy, cX12_goesBy, 5, (some .int), { frames := 3, cells := 0, slots := 0, locals := 76 }, [(0, .iload_n 1, 1, 0), (1, .iload_n 2, 2, 0), (2, .invokestatic 127, 5, 0), (5, .istore_n 3, 6, 0), (6, .aload_n 0, 7, 0), (7, .getfield 20, 10, 0), (10, .ifCond .ge 7, 13, 17), (13, .iconst 0, 14, 0), (14, .goto 11, 17, 25), (17, .iload_n 1, 18, 0), (18, .aload_n 0, 19, 0), (19, .getfield 20, 22, 0), (22, .invokestatic 127, 25, 0), (25, .istore 4, 27, 0), (27, .aload_n 0, 28, 0), (28, .iload_n 2, 29, 0), (29, .iload_n 3, 30, 0), (30, .iload_n 3, 31, 0), (31, .iload 4, 33, 0), (33, .iload 4, 35, 0), (35, .iconst 0, 36, 0), (36, .invokevirtual 130, 39, 0), (39, .ireturn, 40, 0)])
def M_X12_layThing : wb_MD := (yX12_layThing, cX12_layThing, 3, none, { frames := 3, cells := 0, slots := 0, locals := 76 }, [(0, .iconst 0, 1, 0), (1, .istore_n 2, 2, 0), (2, .iload_n 2, 3, 0), (3, .sipush 625, 6, 0), (6, .if_icmp .ge 90, 9, 96), (9, .aload_n 0, 10, 0), (10, .getfield 32, 13, 0), (13, .sipush 625, 16, 0), (16, .iload_n 1, 17, 0), (17, .imul, 18, 0), (18, .iload_n 2, 19, 0), (19, .iadd, 20, 0), (20, .iload_n 1, 21, 0), (21, .aload_n 0, 22, 0), (22, .getfield 16, 25, 0), (25, .if_icmp .eq 10, 28, 35), (28, .iload_n 2, 29, 0), (29, .bipush 25, 31, 0), (31, .irem, 32, 0), (32, .ifCond .ne 40, 35, 72), (35, .aload_n 0, 36, 0), (36, .iload_n 1, 37, 0), (37, .iload_n 2, 38, 0), (38, .bipush 25, 40, 0), (40, .idiv, 41, 0), (41, .iload_n 2, 42, 0), (42, .bipush 25, 44, 0), (44, .idiv, 45, 0), (45, .iload_n 2, 46, 0), (46, .bipush 25, 48, 0), (48, .irem, 49, 0), (49, .iload_n 2, 50, 0), (50, .bipush 25, 52, 0), (52, .irem, 53, 0), (53, .iconst 0, 54, 0), (54, .invokevirtual 130, 57, 0), (57, .aload_n 0, 58, 0), (58, .getfield 60, 61, 0), (61, .if_icmp .ne 7, 64, 68), (64, .iconst 1, 65, 0), (65, .goto 24, 68, 89), (68, .iconst 0, 69, 0), (69, .goto 20, 72, 89), (72, .aload_n 0, 73, 0), (73, .getfield 32, 76, 0), (76, .sipush 625, 79, 0), (79, .iload_n 1, 80, 0), (80, .imul, 81, 0), (81, .iload_n 2, 82, 0), (82, .iadd, 83, 0), (83, .iload_n 2, 84, 0), (84, .bipush 25, 86, 0), (86, .irem, 87, 0), (87, .isub, 88, 0), (88, .baload, 89, 0), (89, .bastore, 90, 0), (90, .iinc 2 1, 93, 0), (93, .goto (-91), 96, 2), (96, .return_, 97, 0)])
def M_X12_layThings : wb_MD := (yX12_layThings, cX12_layThings, 2, none, { frames := 4, cells := 0, slots := 0, locals := 98 }, [(0, .iconst 0, 1, 0), (1, .istore_n 1, 2, 0), (2, .iload_n 1, 3, 0), (3, .iconst 3, 4, 0), (4, .if_icmp .ge 14, 7, 18), (7, .aload_n 0, 8, 0), (8, .iload_n 1, 9, 0), (9, .invokevirtual 134, 12, 0), (12, .iinc 1 1, 15, 0), (15, .goto (-13), 18, 2), (18, .return_, 19, 0)])
def M_X12_agreesWith : wb_MD := (yX12_agreesWith, cX12_agreesWith, 3, (some .boolean), { frames := 2, cells := 0, slots := 0, locals := 44 }, [(0, .aload_n 0, 1, 0), (1, .getfield 32, 4, 0), (4, .sipush 625, 7, 0), (7, .iload_n 2, 8, 0), (8, .imul, 9, 0), (9, .bipush 25, 11, 0), (11, .iload_n 1, 12, 0), (12, .iload_n 2, 13, 0), (13, .invokestatic 127, 16, 0), (16, .imul, 17, 0), (17, .iadd, 18, 0), (18, .iload_n 2, 19, 0), (19, .aload_n 0, 20, 0), (20, .getfield 16, 23, 0), (23, .if_icmp .ne 14, 26, 37), (26, .iload_n 1, 27, 0), (27, .aload_n 0, 28, 0), (28, .getfield 20, 31, 0), (31, .invokestatic 127, 34, 0), (34, .goto 4, 37, 38), (37, .iconst 0, 38, 0), (38, .iadd, 39, 0), (39, .baload, 40, 0), (40, .ireturn, 41, 0)])
def M_X12_agreesWithAll : wb_MD := (yX12_agreesWithAll, cX12_agreesWithAll, 2, (some .boolean), { frames := 3, cells := 0, slots := 0, locals := 66 }, [(0, .aload_n 0, 1, 0), (1, .iload_n 1, 2, 0), (2, .iconst 0, 3, 0), (3, .invokevirtual 138, 6, 0), (6, .ifCond .eq 25, 9, 31), (9, .aload_n 0, 10, 0), (10, .iload_n 1, 11, 0), (11, .iconst 1, 12, 0), (12, .invokevirtual 138, 15, 0), (15, .ifCond .eq 16, 18, 31), (18, .aload_n 0, 19, 0), (19, .iload_n 1, 20, 0), (20, .iconst 2, 21, 0), (21, .invokevirtual 138, 24, 0), (24, .ifCond .eq 7, 27, 31), (27, .iconst 1, 28, 0), (28, .goto 4, 31, 32), (31, .iconst 0, 32, 0), (32, .ireturn, 33, 0)])
def M_X12_lay : wb_MD := (yX12_lay, cX12_lay, 2, (some .int), { frames := 5, cells := 0, slots := 0, locals := 119 }, [(0, .aload_n 0, 1, 0), (1, .getfield 63, 4, 0), (4, .ifCond .ne 94, 7, 98), (7, .aload_n 0, 8, 0), (8, .iconst 1, 9, 0), (9, .putfield 63, 12, 0), (12, .aload_n 0, 13, 0), (13, .invokevirtual 142, 16, 0), (16, .aload_n 0, 17, 0), (17, .iconst 0, 18, 0), (18, .putfield 145, 21, 0), (21, .iconst 0, 22, 0), (22, .istore_n 1, 23, 0), (23, .iload_n 1, 24, 0), (24, .sipush 15625, 27, 0), (27, .if_icmp .ge 71, 30, 98), (30, .aload_n 0, 31, 0), (31, .getfield 36, 34, 0), (34, .iload_n 1, 35, 0), (35, .aload_n 0, 36, 0), (36, .iload_n 1, 37, 0), (37, .invokevirtual 148, 40, 0), (40, .bastore, 41, 0), (41, .aload_n 0, 42, 0), (42, .getfield 39, 45, 0), (45, .iload_n 1, 46, 0), (46, .aload_n 0, 47, 0), (47, .getfield 36, 50, 0), (50, .iload_n 1, 51, 0), (51, .baload, 52, 0), (52, .ifCond .eq 15, 55, 67), (55, .aload_n 0, 56, 0), (56, .iload_n 1, 57, 0), (57, .invokevirtual 151, 60, 0), (60, .ifCond .eq 7, 63, 67), (63, .iconst 1, 64, 0), (64, .goto 4, 67, 68), (67, .iconst 0, 68, 0), (68, .bastore, 69, 0), (69, .aload_n 0, 70, 0), (70, .dup, 71, 0), (71, .getfield 145, 74, 0), (74, .aload_n 0, 75, 0), (75, .getfield 39, 78, 0), (78, .iload_n 1, 79, 0), (79, .baload, 80, 0), (80, .ifCond .eq 7, 83, 87), (83, .iconst 1, 84, 0), (84, .goto 4, 87, 88), (87, .iconst 0, 88, 0), (88, .iadd, 89, 0), (89, .putfield 145, 92, 0), (92, .iinc 1 1, 95, 0), (95, .goto (-72), 98, 23), (98, .aload_n 0, 99, 0), (99, .getfield 145, 102, 0), (102, .ireturn, 103, 0)])
def M_X12_fits : wb_MD := (yX12_fits, cX12_fits, 6, (some .int), { frames := 4, cells := 0, slots := 0, locals := 100 }, [(0, .iload_n 1, 1, 0), (1, .invokestatic 154, 4, 0), (4, .ifCond .ne 5, 7, 9), (7, .iconst (-1), 8, 0), (8, .ireturn, 9, 0), (9, .iload_n 2, 10, 0), (10, .iconst 0, 11, 0), (11, .iconst 2, 12, 0), (12, .invokestatic 56, 15, 0), (15, .ifCond .ne 6, 18, 21), (18, .bipush (-2), 20, 0), (20, .ireturn, 21, 0), (21, .iload_n 2, 22, 0), (22, .iconst 1, 23, 0), (23, .if_icmp .eq 11, 26, 34), (26, .aload_n 0, 27, 0), (27, .iload_n 1, 28, 0), (28, .invokevirtual 148, 31, 0), (31, .ifCond .eq 7, 34, 38), (34, .iconst 1, 35, 0), (35, .goto 4, 38, 39), (38, .iconst 0, 39, 0), (39, .istore_n 3, 40, 0), (40, .iconst 1, 41, 0), (41, .istore 4, 43, 0), (43, .iconst 0, 44, 0), (44, .istore 5, 46, 0), (46, .iload 5, 48, 0), (48, .iconst 3, 49, 0), (49, .if_icmp .ge 39, 52, 88), (52, .iload_n 2, 53, 0), (53, .ifCond .le 35, 56, 88), (56, .iload 4, 58, 0), (58, .ifCond .eq 21, 61, 79), (61, .aload_n 0, 62, 0), (62, .iload_n 1, 63, 0), (63, .iload 5, 65, 0), (65, .invokevirtual 157, 68, 0), (68, .aload_n 0, 69, 0), (69, .getfield 60, 72, 0), (72, .if_icmp .ne 7, 75, 79), (75, .iconst 1, 76, 0), (76, .goto 4, 79, 80), (79, .iconst 0, 80, 0), (80, .istore 4, 82, 0), (82, .iinc 5 1, 85, 0), (85, .goto (-39), 88, 46), (88, .iload_n 3, 89, 0), (89, .ifCond .eq 12, 92, 101), (92, .iload 4, 94, 0), (94, .ifCond .eq 7, 97, 101), (97, .iconst 1, 98, 0), (98, .goto 4, 101, 102), (101, .iconst 0, 102, 0), (102, .ireturn, 103, 0)])
def M_X12_needs : wb_MD := (yX12_needs, cX12_needs, 4, (some .int), { frames := 2, cells := 0, slots := 0, locals := 49 }, [(0, .iload_n 1, 1, 0), (1, .invokestatic 154, 4, 0), (4, .ifCond .eq 18, 7, 22), (7, .aload_n 0, 8, 0), (8, .iload_n 2, 9, 0), (9, .invokevirtual 67, 12, 0), (12, .ifCond .eq 10, 15, 22), (15, .iload_n 3, 16, 0), (16, .invokestatic 75, 19, 0), (19, .ifCond .ne 5, 22, 24), (22, .iconst (-1), 23, 0), (23, .ireturn, 24, 0), (24, .aload_n 0, 25, 0), (25, .iload_n 3, 26, 0), (26, .iload_n 2, 27, 0), (27, .iload_n 1, 28, 0), (28, .iload_n 3, 29, 0), (29, .invokestatic 127, 32, 0), (32, .aload_n 0, 33, 0), (33, .getfield 20, 36, 0), (36, .ifCond .ge 7, 39, 43), (39, .iconst 0, 40, 0), (40, .goto 11, 43, 51), (43, .iload_n 1, 44, 0), (44, .aload_n 0, 45, 0), (45, .getfield 20, 48, 0), (48, .invokestatic 127, 51, 0), (51, .invokevirtual 120, 54, 0), (54, .ireturn, 55, 0)])
def M_X12_judge : wb_MD := (yX12_judge, cX12_judge, 7, (some .int), { frames := 4, cells := 0, slots := 0, locals := 100 }, [(0, .iload_n 1, 1, 0), (1, .invokestatic 154, 4, 0), (4, .ifCond .ne 5, 7, 9), (7, .iconst (-1), 8, 0), (8, .ireturn, 9, 0), (9, .iload_n 2, 10, 0), (10, .iconst 0, 11, 0), (11, .iconst 1, 12, 0), (12, .invokestatic 56, 15, 0), (15, .ifCond .ne 6, 18, 21), (18, .bipush (-2), 20, 0), (20, .ireturn, 21, 0), (21, .aload_n 0, 22, 0), (22, .getfield 60, 25, 0), (25, .istore_n 3, 26, 0), (26, .bipush (-6), 28, 0), (28, .istore 4, 30, 0), (30, .iconst 0, 31, 0), (31, .istore 5, 33, 0), (33, .iload 5, 35, 0), (35, .iconst 3, 36, 0), (36, .if_icmp .ge 46, 39, 82), (39, .aload_n 0, 40, 0), (40, .iload_n 1, 41, 0), (41, .iload 5, 43, 0), (43, .invokevirtual 157, 46, 0), (46, .istore 6, 48, 0), (48, .iload 6, 50, 0), (50, .iload_n 3, 51, 0), (51, .if_icmp .ge 8, 54, 59), (54, .iload 5, 56, 0), (56, .goto 5, 59, 61), (59, .iload 4, 61, 0), (61, .istore 4, 63, 0), (63, .iload 6, 65, 0), (65, .iload_n 3, 66, 0), (66, .if_icmp .ge 8, 69, 74), (69, .iload 6, 71, 0), (71, .goto 4, 74, 75), (74, .iload_n 3, 75, 0), (75, .istore_n 3, 76, 0), (76, .iinc 5 1, 79, 0), (79, .goto (-46), 82, 33), (82, .iload 4, 84, 0), (84, .ifCond .ge 8, 87, 92), (87, .bipush (-6), 89, 0), (89, .goto 13, 92, 102), (92, .iload_n 2, 93, 0), (93, .ifCond .ne 7, 96, 100), (96, .iload_n 3, 97, 0), (97, .goto 5, 100, 102), (100, .iload 4, 102, 0), (102, .ireturn, 103, 0)])
def M_X12_lies : wb_MD := (yX12_lies, cX12_lies, 7, (some .int), { frames := 4, cells := 0, slots := 0, locals := 100 }, [(0, .iload_n 1, 1, 0), (1, .invokestatic 154, 4, 0), (4, .ifCond .eq 18, 7, 22), (7, .iload_n 2, 8, 0), (8, .invokestatic 75, 11, 0), (11, .ifCond .eq 11, 14, 22), (14, .aload_n 0, 15, 0), (15, .iload_n 3, 16, 0), (16, .invokevirtual 67, 19, 0), (19, .ifCond .ne 5, 22, 24), (22, .iconst (-1), 23, 0), (23, .ireturn, 24, 0), (24, .iload 4, 26, 0), (26, .iconst 0, 27, 0), (27, .iconst 1, 28, 0), (28, .invokestatic 56, 31, 0), (31, .ifCond .ne 6, 34, 37), (34, .bipush (-2), 36, 0), (36, .ireturn, 37, 0), (37, .aload_n 0, 38, 0), (38, .getfield 60, 41, 0), (41, .istore 5, 43, 0), (43, .aload_n 0, 44, 0), (44, .iload_n 3, 45, 0), (45, .iconst 1, 46, 0), (46, .iadd, 47, 0), (47, .putfield 60, 50, 0), (50, .aload_n 0, 51, 0), (51, .iload_n 1, 52, 0), (52, .iload_n 2, 53, 0), (53, .invokevirtual 157, 56, 0), (56, .aload_n 0, 57, 0), (57, .getfield 60, 60, 0), (60, .if_icmp .ne 7, 63, 67), (63, .iconst 1, 64, 0), (64, .goto 4, 67, 68), (67, .iconst 0, 68, 0), (68, .istore 6, 70, 0), (70, .aload_n 0, 71, 0), (71, .iload 5, 73, 0), (73, .putfield 60, 76, 0), (76, .iload 6, 78, 0), (78, .ifCond .ne 8, 81, 86), (81, .bipush (-5), 83, 0), (83, .goto 19, 86, 102), (86, .iload 4, 88, 0), (88, .ifCond .ne 10, 91, 98), (91, .aload_n 0, 92, 0), (92, .getfield 114, 95, 0), (95, .goto 7, 98, 102), (98, .aload_n 0, 99, 0), (99, .getfield 117, 102, 0), (102, .ireturn, 103, 0)])
def M_X12_all : wb_MD := (yX12_all, cX12_all, 5, (some .int), { frames := 6, cells := 0, slots := 0, locals := 140 }, [(0, .aload_n 0, 1, 0), (1, .invokevirtual 160, 4, 0), (4, .istore_n 2, 5, 0), (5, .iload_n 1, 6, 0), (6, .iconst (-1), 7, 0), (7, .if_icmp .ne 5, 10, 12), (10, .iload_n 2, 11, 0), (11, .ireturn, 12, 0), (12, .iload_n 1, 13, 0), (13, .iconst 0, 14, 0), (14, .iload_n 2, 15, 0), (15, .iconst 1, 16, 0), (16, .isub, 17, 0), (17, .invokestatic 56, 20, 0), (20, .ifCond .ne 6, 23, 26), (23, .bipush (-6), 25, 0), (25, .ireturn, 26, 0), (26, .iload_n 1, 27, 0), (27, .istore_n 3, 28, 0), (28, .iconst 0, 29, 0), (29, .istore 4, 31, 0), (31, .aload_n 0, 32, 0), (32, .getfield 39, 35, 0), (35, .iload 4, 37, 0), (37, .baload, 38, 0), (38, .ifCond .eq 7, 41, 45), (41, .iload_n 3, 42, 0), (42, .ifCond .le 27, 45, 69), (45, .iload_n 3, 46, 0), (46, .aload_n 0, 47, 0), (47, .getfield 39, 50, 0), (50, .iload 4, 52, 0), (52, .baload, 53, 0), (53, .ifCond .eq 7, 56, 60), (56, .iconst 1, 57, 0), (57, .goto 4, 60, 61), (60, .iconst 0, 61, 0), (61, .isub, 62, 0), (62, .istore_n 3, 63, 0), (63, .iinc 4 1, 66, 0), (66, .goto (-35), 69, 31), (69, .iload 4, 71, 0), (71, .ireturn, 72, 0)])
def M_X12_ends : wb_MD := (yX12_ends, cX12_ends, 7, (some .int), { frames := 6, cells := 0, slots := 0, locals := 140 }, [(0, .iload_n 1, 1, 0), (1, .iconst 0, 2, 0), (2, .iconst 1, 3, 0), (3, .invokestatic 56, 6, 0), (6, .ifCond .eq 10, 9, 16), (9, .iload_n 2, 10, 0), (10, .invokestatic 75, 13, 0), (13, .ifCond .ne 5, 16, 18), (16, .iconst (-1), 17, 0), (17, .ireturn, 18, 0), (18, .iload_n 3, 19, 0), (19, .iconst 0, 20, 0), (20, .iconst 1, 21, 0), (21, .invokestatic 56, 24, 0), (24, .ifCond .ne 6, 27, 30), (27, .bipush (-2), 29, 0), (29, .ireturn, 30, 0), (30, .aload_n 0, 31, 0), (31, .invokevirtual 160, 34, 0), (34, .ifCond .ne 6, 37, 40), (37, .bipush (-5), 39, 0), (39, .ireturn, 40, 0), (40, .iload_n 3, 41, 0), (41, .ifCond .ne 7, 44, 48), (44, .iconst 5, 45, 0), (45, .goto 4, 48, 49), (48, .iconst (-1), 49, 0), (49, .istore 4, 51, 0), (51, .iconst 0, 52, 0), (52, .istore 5, 54, 0), (54, .iload 5, 56, 0), (56, .sipush 15625, 59, 0), (59, .if_icmp .ge 73, 62, 132), (62, .aload_n 0, 63, 0), (63, .getfield 39, 66, 0), (66, .iload 5, 68, 0), (68, .baload, 69, 0), (69, .ifCond .eq 16, 72, 85), (72, .iload 5, 74, 0), (74, .iconst 3, 75, 0), (75, .iload_n 1, 76, 0), (76, .imul, 77, 0), (77, .iload_n 2, 78, 0), (78, .iadd, 79, 0), (79, .invokestatic 94, 82, 0), (82, .goto 5, 85, 87), (85, .iload 4, 87, 0), (87, .istore 6, 89, 0), (89, .iload_n 3, 90, 0), (90, .ifCond .ne 20, 93, 110), (93, .iload 6, 95, 0), (95, .iload 4, 97, 0), (97, .if_icmp .ge 8, 100, 105), (100, .iload 6, 102, 0), (102, .goto 22, 105, 124), (105, .iload 4, 107, 0), (107, .goto 17, 110, 124), (110, .iload 6, 112, 0), (112, .iload 4, 114, 0), (114, .if_icmp .le 8, 117, 122), (117, .iload 6, 119, 0), (119, .goto 5, 122, 124), (122, .iload 4, 124, 0), (124, .istore 4, 126, 0), (126, .iinc 5 1, 129, 0), (129, .goto (-75), 132, 54), (132, .iload 4, 134, 0), (134, .ireturn, 135, 0)])
def M_X12_must : wb_MD := (yX12_must, cX12_must, 6, (some .int), { frames := 6, cells := 0, slots := 0, locals := 140 }, [(0, .iload_n 1, 1, 0), (1, .iconst 0, 2, 0), (2, .iconst 1, 3, 0), (3, .invokestatic 56, 6, 0), (6, .ifCond .ne 6, 9, 12), (9, .bipush (-2), 11, 0), (11, .ireturn, 12, 0), (12, .aload_n 0, 13, 0), (13, .invokevirtual 160, 16, 0), (16, .ifCond .ne 6, 19, 22), (19, .bipush (-5), 21, 0), (21, .ireturn, 22, 0), (22, .bipush 63, 24, 0), (24, .istore_n 2, 25, 0), (25, .iconst 0, 26, 0), (26, .istore_n 3, 27, 0), (27, .iload_n 3, 28, 0), (28, .sipush 15625, 31, 0), (31, .if_icmp .ge 78, 34, 109), (34, .iconst 0, 35, 0), (35, .istore 4, 37, 0), (37, .iload 4, 39, 0), (39, .bipush 6, 41, 0), (41, .if_icmp .ge 62, 44, 103), (44, .aload_n 0, 45, 0), (45, .getfield 39, 48, 0), (48, .iload_n 3, 49, 0), (49, .baload, 50, 0), (50, .ifCond .eq 53, 53, 103), (53, .iload_n 3, 54, 0), (54, .iload 4, 56, 0), (56, .invokestatic 94, 59, 0), (59, .ifCond .le 7, 62, 66), (62, .iconst 1, 63, 0), (63, .goto 4, 66, 67), (66, .iconst 0, 67, 0), (67, .istore 5, 69, 0), (69, .iload_n 2, 70, 0), (70, .iload 5, 72, 0), (72, .iload_n 1, 73, 0), (73, .ifCond .ne 7, 76, 80), (76, .iconst 1, 77, 0), (77, .goto 4, 80, 81), (80, .iconst 0, 81, 0), (81, .if_icmp .ne 8, 84, 89), (84, .bipush 63, 86, 0), (86, .goto 9, 89, 95), (89, .iconst 1, 90, 0), (90, .iload 4, 92, 0), (92, .ishl, 93, 0), (93, .iconst (-1), 94, 0), (94, .ixor, 95, 0), (95, .iand, 96, 0), (96, .istore_n 2, 97, 0), (97, .iinc 4 1, 100, 0), (100, .goto (-63), 103, 37), (103, .iinc 3 1, 106, 0), (106, .goto (-79), 109, 27), (109, .iload_n 2, 110, 0), (110, .ireturn, 111, 0)])
def M_X12_things : wb_MD := (yX12_things, cX12_things, 3, (some .int), { frames := 1, cells := 0, slots := 0, locals := 23 }, [(0, .iconst 0, 1, 0), (1, .istore_n 1, 2, 0), (2, .iconst 0, 3, 0), (3, .istore_n 2, 4, 0), (4, .iload_n 2, 5, 0), (5, .bipush 6, 7, 0), (7, .if_icmp .ge 25, 10, 32), (10, .iload_n 1, 11, 0), (11, .iload_n 0, 12, 0), (12, .iload_n 2, 13, 0), (13, .invokestatic 94, 16, 0), (16, .ifCond .le 7, 19, 23), (19, .iconst 1, 20, 0), (20, .goto 4, 23, 24), (23, .iconst 0, 24, 0), (24, .iadd, 25, 0), (25, .istore_n 1, 26, 0), (26, .iinc 2 1, 29, 0), (29, .goto (-25), 32, 4), (32, .iload_n 1, 33, 0), (33, .ireturn, 34, 0)])
def M_X12_plain : wb_MD := (yX12_plain, cX12_plain, 4, (some .int), { frames := 6, cells := 0, slots := 0, locals := 140 }, [(0, .iload_n 1, 1, 0), (1, .iconst 0, 2, 0), (2, .iconst 1, 3, 0), (3, .invokestatic 56, 6, 0), (6, .ifCond .ne 6, 9, 12), (9, .bipush (-2), 11, 0), (11, .ireturn, 12, 0), (12, .aload_n 0, 13, 0), (13, .invokevirtual 160, 16, 0), (16, .ifCond .ne 6, 19, 22), (19, .bipush (-5), 21, 0), (21, .ireturn, 22, 0), (22, .bipush (-6), 24, 0), (24, .istore_n 2, 25, 0), (25, .iconst 0, 26, 0), (26, .istore_n 3, 27, 0), (27, .iload_n 3, 28, 0), (28, .sipush 15625, 31, 0), (31, .if_icmp .ge 35, 34, 66), (34, .aload_n 0, 35, 0), (35, .getfield 39, 38, 0), (38, .iload_n 3, 39, 0), (39, .baload, 40, 0), (40, .ifCond .eq 20, 43, 60), (43, .iload_n 2, 44, 0), (44, .ifCond .lt 14, 47, 58), (47, .iload_n 3, 48, 0), (48, .invokestatic 163, 51, 0), (51, .iload_n 2, 52, 0), (52, .invokestatic 163, 55, 0), (55, .if_icmp .ge 5, 58, 60), (58, .iload_n 3, 59, 0), (59, .istore_n 2, 60, 0), (60, .iinc 3 1, 63, 0), (63, .goto (-36), 66, 27), (66, .iload_n 1, 67, 0), (67, .ifCond .ne 7, 70, 74), (70, .iload_n 2, 71, 0), (71, .goto 7, 74, 78), (74, .iload_n 2, 75, 0), (75, .invokestatic 163, 78, 0), (78, .ireturn, 79, 0)])
def M_X12_firstNow : wb_MD := (yX12_firstNow, cX12_firstNow, 2, (some .int), { frames := 4, cells := 0, slots := 0, locals := 87 }, [(0, .iconst 0, 1, 0), (1, .istore_n 1, 2, 0), (2, .iload_n 1, 3, 0), (3, .sipush 15625, 6, 0), (6, .if_icmp .ge 28, 9, 34), (9, .aload_n 0, 10, 0), (10, .getfield 36, 13, 0), (13, .iload_n 1, 14, 0), (14, .baload, 15, 0), (15, .ifCond .eq 13, 18, 28), (18, .aload_n 0, 19, 0), (19, .iload_n 1, 20, 0), (20, .invokevirtual 151, 23, 0), (23, .ifCond .eq 5, 26, 28), (26, .iload_n 1, 27, 0), (27, .ireturn, 28, 0), (28, .iinc 1 1, 31, 0), (31, .goto (-29), 34, 2), (34, .bipush (-6), 36, 0), (36, .ireturn, 37, 0)])
def M_X12_near : wb_MD := (yX12_near, cX12_near, 5, (some .int), { frames := 6, cells := 0, slots := 0, locals := 140 }, [(0, .iload_n 1, 1, 0), (1, .iconst 0, 2, 0), (2, .iconst 1, 3, 0), (3, .invokestatic 56, 6, 0), (6, .ifCond .ne 6, 9, 12), (9, .bipush (-2), 11, 0), (11, .ireturn, 12, 0), (12, .aload_n 0, 13, 0), (13, .invokevirtual 160, 16, 0), (16, .pop, 17, 0), (17, .bipush (-6), 19, 0), (19, .istore_n 2, 20, 0), (20, .bipush (-6), 22, 0), (22, .istore_n 3, 23, 0), (23, .iconst 0, 24, 0), (24, .istore 4, 26, 0), (26, .iload 4, 28, 0), (28, .bipush 100, 30, 0), (30, .if_icmp .ge 31, 33, 61), (33, .iload_n 2, 34, 0), (34, .ifCond .ge 27, 37, 61), (37, .aload_n 0, 38, 0), (38, .iload 4, 40, 0), (40, .putfield 101, 43, 0), (43, .aload_n 0, 44, 0), (44, .invokevirtual 142, 47, 0), (47, .aload_n 0, 48, 0), (48, .invokevirtual 166, 51, 0), (51, .istore_n 2, 52, 0), (52, .iload 4, 54, 0), (54, .istore_n 3, 55, 0), (55, .iinc 4 1, 58, 0), (58, .goto (-32), 61, 26), (61, .aload_n 0, 62, 0), (62, .iconst 0, 63, 0), (63, .putfield 101, 66, 0), (66, .aload_n 0, 67, 0), (67, .invokevirtual 142, 70, 0), (70, .iload_n 2, 71, 0), (71, .ifCond .ge 8, 74, 79), (74, .bipush (-5), 76, 0), (76, .goto 12, 79, 88), (79, .iload_n 1, 80, 0), (80, .ifCond .ne 7, 83, 87), (83, .iload_n 3, 84, 0), (84, .goto 4, 87, 88), (87, .iload_n 2, 88, 0), (88, .ireturn, 89, 0)])
def M_X12_bits : wb_MD := (yX12_bits, cX12_bits, 3, (some .int), { frames := 0, cells := 0, slots := 0, locals := 0 }, [(0, .iconst 0, 1, 0), (1, .istore_n 1, 2, 0), (2, .iconst 0, 3, 0), (3, .istore_n 2, 4, 0), (4, .iload_n 2, 5, 0), (5, .bipush 8, 7, 0), (7, .if_icmp .ge 17, 10, 24), (10, .iload_n 1, 11, 0), (11, .iload_n 0, 12, 0), (12, .iload_n 2, 13, 0), (13, .ishr, 14, 0), (14, .iconst 1, 15, 0), (15, .iand, 16, 0), (16, .iadd, 17, 0), (17, .istore_n 1, 18, 0), (18, .iinc 2 1, 21, 0), (21, .goto (-17), 24, 4), (24, .iload_n 1, 25, 0), (25, .ireturn, 26, 0)])
def M_X12_doubt : wb_MD := (yX12_doubt, cX12_doubt, 6, (some .int), { frames := 6, cells := 0, slots := 0, locals := 140 }, [(0, .iload_n 1, 1, 0), (1, .iconst 0, 2, 0), (2, .iconst 1, 3, 0), (3, .invokestatic 56, 6, 0), (6, .ifCond .ne 6, 9, 12), (9, .bipush (-2), 11, 0), (11, .ireturn, 12, 0), (12, .aload_n 0, 13, 0), (13, .invokevirtual 160, 16, 0), (16, .pop, 17, 0), (17, .bipush (-6), 19, 0), (19, .istore_n 2, 20, 0), (20, .bipush (-6), 22, 0), (22, .istore_n 3, 23, 0), (23, .iconst 0, 24, 0), (24, .istore 4, 26, 0), (26, .iload 4, 28, 0), (28, .iconst 3, 29, 0), (29, .if_icmp .ge 65, 32, 94), (32, .iload_n 2, 33, 0), (33, .ifCond .ge 61, 36, 94), (36, .iconst 0, 37, 0), (37, .istore 5, 39, 0), (39, .iload 5, 41, 0), (41, .iconst 1, 42, 0), (42, .aload_n 0, 43, 0), (43, .getfield 60, 46, 0), (46, .ishl, 47, 0), (47, .if_icmp .ge 41, 50, 88), (50, .iload_n 2, 51, 0), (51, .ifCond .ge 37, 54, 88), (54, .iload 5, 56, 0), (56, .invokestatic 169, 59, 0), (59, .iload 4, 61, 0), (61, .if_icmp .ne 21, 64, 82), (64, .aload_n 0, 65, 0), (65, .iload 5, 67, 0), (67, .putfield 110, 70, 0), (70, .aload_n 0, 71, 0), (71, .invokevirtual 142, 74, 0), (74, .aload_n 0, 75, 0), (75, .invokevirtual 166, 78, 0), (78, .istore_n 2, 79, 0), (79, .iload 5, 81, 0), (81, .istore_n 3, 82, 0), (82, .iinc 5 1, 85, 0), (85, .goto (-46), 88, 39), (88, .iinc 4 1, 91, 0), (91, .goto (-65), 94, 26), (94, .aload_n 0, 95, 0), (95, .iconst 0, 96, 0), (96, .putfield 110, 99, 0), (99, .aload_n 0, 100, 0), (100, .invokevirtual 142, 103, 0), (103, .iload_n 2, 104, 0), (104, .ifCond .ge 8, 107, 112), (107, .bipush (-5), 109, 0), (109, .goto 12, 112, 121), (112, .iload_n 1, 113, 0), (113, .ifCond .ne 7, 116, 120), (116, .iload_n 3, 117, 0), (117, .goto 4, 120, 121), (120, .iload_n 2, 121, 0), (121, .ireturn, 122, 0)])
def M_X12_agreesChanged : wb_MD := (yX12_agreesChanged, cX12_agreesChanged, 13, (some .boolean), { frames := 3, cells := 0, slots := 0, locals := 76 }, [(0, .iload_n 2, 1, 0), (1, .iload_n 1, 2, 0), (2, .invokestatic 127, 5, 0), (5, .istore 6, 7, 0), (7, .iload_n 3, 8, 0), (8, .iload_n 1, 9, 0), (9, .invokestatic 127, 12, 0), (12, .istore 7, 14, 0), (14, .iload_n 1, 15, 0), (15, .aload_n 0, 16, 0), (16, .getfield 16, 19, 0), (19, .if_icmp .ne 7, 22, 26), (22, .iconst 1, 23, 0), (23, .goto 4, 26, 27), (26, .iconst 0, 27, 0), (27, .istore 8, 29, 0), (29, .iload 8, 31, 0), (31, .ifCond .eq 14, 34, 45), (34, .iload_n 2, 35, 0), (35, .aload_n 0, 36, 0), (36, .getfield 20, 39, 0), (39, .invokestatic 127, 42, 0), (42, .goto 4, 45, 46), (45, .iconst 0, 46, 0), (46, .istore 9, 48, 0), (48, .iload 8, 50, 0), (50, .ifCond .eq 14, 53, 64), (53, .iload_n 3, 54, 0), (54, .aload_n 0, 55, 0), (55, .getfield 20, 58, 0), (58, .invokestatic 127, 61, 0), (61, .goto 4, 64, 65), (64, .iconst 0, 65, 0), (65, .istore 10, 67, 0), (67, .iload_n 1, 68, 0), (68, .iload 4, 70, 0), (70, .if_icmp .ne 21, 73, 91), (73, .sipush 625, 76, 0), (76, .iload 6, 78, 0), (78, .imul, 79, 0), (79, .bipush 25, 81, 0), (81, .iload 7, 83, 0), (83, .imul, 84, 0), (84, .iadd, 85, 0), (85, .iload 9, 87, 0), (87, .iadd, 88, 0), (88, .goto 43, 91, 131), (91, .iload 8, 93, 0), (93, .ifCond .eq 30, 96, 123), (96, .aload_n 0, 97, 0), (97, .getfield 20, 100, 0), (100, .iload 4, 102, 0), (102, .if_icmp .ne 21, 105, 123), (105, .sipush 625, 108, 0), (108, .iload 6, 110, 0), (110, .imul, 111, 0), (111, .bipush 25, 113, 0), (113, .iload 9, 115, 0), (115, .imul, 116, 0), (116, .iadd, 117, 0), (117, .iload 10, 119, 0), (119, .iadd, 120, 0), (120, .goto 11, 123, 131), (123, .bipush 25, 125, 0), (125, .iload 6, 127, 0), (127, .imul, 128, 0), (128, .iload 9, 130, 0), (130, .iadd, 131, 0), (131, .istore 11, 133, 0), (133, .sipush 15625, 136, 0), (136, .iload_n 1, 137, 0), (137, .imul, 138, 0), (138, .iload 11, 140, 0), (140, .iadd, 141, 0), (141, .istore 12, 143, 0), (143, .aload_n 0, 144, 0), (144, .getfield 43, 147, 0), (147, .iload 12, 149, 0), (149, .baload, 150, 0), (150, .ifCond .ne 37, 153, 187), (153, .aload_n 0, 154, 0), (154, .getfield 43, 157, 0), (157, .iload 12, 159, 0), (159, .aload_n 0, 160, 0), (160, .iload_n 1, 161, 0), (161, .iload 6, 163, 0), (163, .iload 7, 165, 0), (165, .iload 9, 167, 0), (167, .iload 10, 169, 0), (169, .iload 5, 171, 0), (171, .invokevirtual 130, 174, 0), (174, .aload_n 0, 175, 0), (175, .getfield 60, 178, 0), (178, .if_icmp .ne 7, 181, 185), (181, .iconst 1, 182, 0), (182, .goto 4, 185, 186), (185, .iconst 2, 186, 0), (186, .bastore, 187, 0), (187, .aload_n 0, 188, 0), (188, .getfield 43, 191, 0), (191, .iload 12, 193, 0), (193, .baload, 194, 0), (194, .iconst 1, 195, 0), (195, .if_icmp .ne 7, 198, 202), (198, .iconst 1, 199, 0), (199, .goto 4, 202, 203), (202, .iconst 0, 203, 0), (203, .ireturn, 204, 0)])
def M_X12_changedFrom : wb_MD := (yX12_changedFrom, cX12_changedFrom, 9, (some .int), { frames := 4, cells := 0, slots := 0, locals := 108 }, [(0, .iconst 0, 1, 0), (1, .istore_n 3, 2, 0), (2, .iload_n 3, 3, 0), (3, .ldc 42, 5, 0), (5, .if_icmp .ge 16, 8, 21), (8, .aload_n 0, 9, 0), (9, .getfield 43, 12, 0), (12, .iload_n 3, 13, 0), (13, .iconst 0, 14, 0), (14, .bastore, 15, 0), (15, .iinc 3 1, 18, 0), (18, .goto (-16), 21, 2), (21, .iload_n 2, 22, 0), (22, .ifCond .ne 9, 25, 31), (25, .sipush 3125, 28, 0), (28, .goto 16, 31, 44), (31, .iload_n 2, 32, 0), (32, .iconst 1, 33, 0), (33, .if_icmp .ne 9, 36, 42), (36, .sipush 625, 39, 0), (39, .goto 5, 42, 44), (42, .bipush 125, 44, 0), (44, .istore_n 3, 45, 0), (45, .iload_n 2, 46, 0), (46, .ifCond .ne 8, 49, 54), (49, .bipush 25, 51, 0), (51, .goto 13, 54, 64), (54, .iload_n 2, 55, 0), (55, .iconst 1, 56, 0), (56, .if_icmp .ne 7, 59, 63), (59, .iconst 5, 60, 0), (60, .goto 4, 63, 64), (63, .iconst 1, 64, 0), (64, .istore 4, 66, 0), (66, .iconst 0, 67, 0), (67, .istore 5, 69, 0), (69, .iload 5, 71, 0), (71, .sipush 15625, 74, 0), (74, .if_icmp .ge 147, 77, 221), (77, .aload_n 0, 78, 0), (78, .getfield 36, 81, 0), (81, .iload 5, 83, 0), (83, .baload, 84, 0), (84, .ifCond .eq 131, 87, 215), (87, .iload 5, 89, 0), (89, .iload_n 3, 90, 0), (90, .iload 5, 92, 0), (92, .iload_n 2, 93, 0), (93, .invokestatic 94, 96, 0), (96, .imul, 97, 0), (97, .isub, 98, 0), (98, .iload 4, 100, 0), (100, .iload 5, 102, 0), (102, .iconst 3, 103, 0), (103, .iload_n 2, 104, 0), (104, .iadd, 105, 0), (105, .invokestatic 94, 108, 0), (108, .imul, 109, 0), (109, .isub, 110, 0), (110, .istore 6, 112, 0), (112, .iconst 0, 113, 0), (113, .istore 7, 115, 0), (115, .iload 7, 117, 0), (117, .bipush 25, 119, 0), (119, .if_icmp .ge 96, 122, 215), (122, .iload 6, 124, 0), (124, .iload_n 3, 125, 0), (125, .iload 7, 127, 0), (127, .iconst 5, 128, 0), (128, .idiv, 129, 0), (129, .imul, 130, 0), (130, .iadd, 131, 0), (131, .iload 4, 133, 0), (133, .iload 7, 135, 0), (135, .iconst 5, 136, 0), (136, .irem, 137, 0), (137, .imul, 138, 0), (138, .iadd, 139, 0), (139, .istore 8, 141, 0), (141, .iload 8, 143, 0), (143, .iload 5, 145, 0), (145, .if_icmp .eq 64, 148, 209), (148, .aload_n 0, 149, 0), (149, .getfield 36, 152, 0), (152, .iload 8, 154, 0), (154, .baload, 155, 0), (155, .ifCond .eq 54, 158, 209), (158, .aload_n 0, 159, 0), (159, .iconst 0, 160, 0), (160, .iload 5, 162, 0), (162, .iload 8, 164, 0), (164, .iload_n 2, 165, 0), (165, .iload_n 1, 166, 0), (166, .invokevirtual 172, 169, 0), (169, .ifCond .eq 40, 172, 209), (172, .aload_n 0, 173, 0), (173, .iconst 1, 174, 0), (174, .iload 5, 176, 0), (176, .iload 8, 178, 0), (178, .iload_n 2, 179, 0), (179, .iload_n 1, 180, 0), (180, .invokevirtual 172, 183, 0), (183, .ifCond .eq 26, 186, 209), (186, .aload_n 0, 187, 0), (187, .iconst 2, 188, 0), (188, .iload 5, 190, 0), (190, .iload 8, 192, 0), (192, .iload_n 2, 193, 0), (193, .iload_n 1, 194, 0), (194, .invokevirtual 172, 197, 0), (197, .ifCond .eq 12, 200, 209), (200, .aload_n 0, 201, 0), (201, .iload 8, 203, 0), (203, .putfield 176, 206, 0), (206, .iload 5, 208, 0), (208, .ireturn, 209, 0), (209, .iinc 7 1, 212, 0), (212, .goto (-97), 215, 115), (215, .iinc 5 1, 218, 0), (218, .goto (-149), 221, 69), (221, .bipush (-6), 223, 0), (223, .ireturn, 224, 0)])
def M_X12_changed : wb_MD := (yX12_changed, cX12_changed, 5, (some .int), { frames := 6, cells := 0, slots := 0, locals := 140 }, [(0, .iload_n 1, 1, 0), (1, .iconst 0, 2, 0), (2, .iconst 3, 3, 0), (3, .invokestatic 56, 6, 0), (6, .ifCond .ne 6, 9, 12), (9, .bipush (-2), 11, 0), (11, .ireturn, 12, 0), (12, .aload_n 0, 13, 0), (13, .invokevirtual 160, 16, 0), (16, .ifCond .le 6, 19, 22), (19, .bipush (-3), 21, 0), (21, .ireturn, 22, 0), (22, .iconst 1, 23, 0), (23, .istore_n 2, 24, 0), (24, .iload_n 2, 25, 0), (25, .aload_n 0, 26, 0), (26, .getfield 60, 29, 0), (29, .if_icmp .ge 67, 32, 96), (32, .iconst 0, 33, 0), (33, .istore_n 3, 34, 0), (34, .iload_n 3, 35, 0), (35, .iconst 3, 36, 0), (36, .if_icmp .ge 54, 39, 90), (39, .aload_n 0, 40, 0), (40, .iload_n 2, 41, 0), (41, .iload_n 3, 42, 0), (42, .invokevirtual 179, 45, 0), (45, .istore 4, 47, 0), (47, .iload 4, 49, 0), (49, .ifCond .lt 35, 52, 84), (52, .iload_n 1, 53, 0), (53, .ifCond .ne 7, 56, 60), (56, .iload_n 2, 57, 0), (57, .goto 26, 60, 83), (60, .iload_n 1, 61, 0), (61, .iconst 1, 62, 0), (62, .if_icmp .ne 7, 65, 69), (65, .iload_n 3, 66, 0), (66, .goto 17, 69, 83), (69, .iload_n 1, 70, 0), (70, .iconst 2, 71, 0), (71, .if_icmp .ne 8, 74, 79), (74, .iload 4, 76, 0), (76, .goto 7, 79, 83), (79, .aload_n 0, 80, 0), (80, .getfield 176, 83, 0), (83, .ireturn, 84, 0), (84, .iinc 3 1, 87, 0), (87, .goto (-53), 90, 34), (90, .iinc 2 1, 93, 0), (93, .goto (-69), 96, 24), (96, .bipush (-5), 98, 0), (98, .ireturn, 99, 0)])
def M_X12_costOf : wb_MD := (yX12_costOf, cX12_costOf, 6, (some .int), { frames := 1, cells := 0, slots := 0, locals := 23 }, [(0, .iconst 0, 1, 0), (1, .istore 4, 3, 0), (3, .iconst 0, 4, 0), (4, .istore 5, 6, 0), (6, .iload 5, 8, 0), (8, .iconst 3, 9, 0), (9, .if_icmp .ge 40, 12, 49), (12, .iload 4, 14, 0), (14, .aload_n 0, 15, 0), (15, .getfield 7, 18, 0), (18, .bipush 9, 20, 0), (20, .iload_n 3, 21, 0), (21, .imul, 22, 0), (22, .bipush 6, 24, 0), (24, .iadd, 25, 0), (25, .iload 5, 27, 0), (27, .iadd, 28, 0), (28, .iaload, 29, 0), (29, .iload_n 1, 30, 0), (30, .iconst 3, 31, 0), (31, .iload_n 2, 32, 0), (32, .imul, 33, 0), (33, .iload 5, 35, 0), (35, .iadd, 36, 0), (36, .invokestatic 94, 39, 0), (39, .imul, 40, 0), (40, .iadd, 41, 0), (41, .istore 4, 43, 0), (43, .iinc 5 1, 46, 0), (46, .goto (-40), 49, 6), (49, .iload 4, 51, 0), (51, .ireturn, 52, 0)])
def M_X12_cost : wb_MD := (yX12_cost, cX12_cost, 4, (some .int), { frames := 2, cells := 0, slots := 0, locals := 48 }, [(0, .iload_n 1, 1, 0), (1, .invokestatic 154, 4, 0), (4, .ifCond .eq 30, 7, 34), (7, .iload_n 2, 8, 0), (8, .iconst 0, 9, 0), (9, .iconst 1, 10, 0), (10, .invokestatic 56, 13, 0), (13, .ifCond .eq 21, 16, 34), (16, .aload_n 0, 17, 0), (17, .iload_n 3, 18, 0), (18, .invokevirtual 67, 21, 0), (21, .ifCond .eq 13, 24, 34), (24, .aload_n 0, 25, 0), (25, .iload_n 1, 26, 0), (26, .iload_n 2, 27, 0), (27, .iload_n 3, 28, 0), (28, .invokevirtual 182, 31, 0), (31, .goto 4, 34, 35), (34, .iconst (-1), 35, 0), (35, .ireturn, 36, 0)])
def M_X12_costs : wb_MD := (yX12_costs, cX12_costs, 7, (some .int), { frames := 6, cells := 0, slots := 0, locals := 140 }, [(0, .iload_n 1, 1, 0), (1, .iconst 0, 2, 0), (2, .iconst 1, 3, 0), (3, .invokestatic 56, 6, 0), (6, .ifCond .eq 11, 9, 17), (9, .aload_n 0, 10, 0), (10, .iload_n 2, 11, 0), (11, .invokevirtual 67, 14, 0), (14, .ifCond .ne 5, 17, 19), (17, .iconst (-1), 18, 0), (18, .ireturn, 19, 0), (19, .iload_n 3, 20, 0), (20, .iconst 0, 21, 0), (21, .iconst 1, 22, 0), (22, .invokestatic 56, 25, 0), (25, .ifCond .ne 6, 28, 31), (28, .bipush (-2), 30, 0), (30, .ireturn, 31, 0), (31, .aload_n 0, 32, 0), (32, .invokevirtual 160, 35, 0), (35, .ifCond .ne 6, 38, 41), (38, .bipush (-5), 40, 0), (40, .ireturn, 41, 0), (41, .bipush (-6), 43, 0), (43, .istore 4, 45, 0), (45, .iconst 0, 46, 0), (46, .istore 5, 48, 0), (48, .iload 5, 50, 0), (50, .sipush 15625, 53, 0), (53, .if_icmp .ge 64, 56, 117), (56, .aload_n 0, 57, 0), (57, .getfield 39, 60, 0), (60, .iload 5, 62, 0), (62, .baload, 63, 0), (63, .ifCond .eq 48, 66, 111), (66, .aload_n 0, 67, 0), (67, .iload 5, 69, 0), (69, .iload_n 1, 70, 0), (70, .iload_n 2, 71, 0), (71, .invokevirtual 182, 74, 0), (74, .istore 6, 76, 0), (76, .iload 4, 78, 0), (78, .ifCond .lt 24, 81, 102), (81, .iload_n 3, 82, 0), (82, .ifCond .ne 13, 85, 95), (85, .iload 6, 87, 0), (87, .iload 4, 89, 0), (89, .if_icmp .ge 18, 92, 107), (92, .goto 10, 95, 102), (95, .iload 6, 97, 0), (97, .iload 4, 99, 0), (99, .if_icmp .le 8, 102, 107), (102, .iload 6, 104, 0), (104, .goto 5, 107, 109), (107, .iload 4, 109, 0), (109, .istore 4, 111, 0), (111, .iinc 5 1, 114, 0), (114, .goto (-66), 117, 48), (117, .iload 4, 119, 0), (119, .ireturn, 120, 0)])
def M_X12_buy : wb_MD := (yX12_buy, cX12_buy, 8, (some .int), { frames := 6, cells := 0, slots := 0, locals := 140 }, [(0, .iload_n 1, 1, 0), (1, .invokestatic 75, 4, 0), (4, .ifCond .ne 5, 7, 9), (7, .iconst (-1), 8, 0), (8, .ireturn, 9, 0), (9, .iload_n 2, 10, 0), (10, .iconst 0, 11, 0), (11, .bipush 20, 13, 0), (13, .invokestatic 56, 16, 0), (16, .ifCond .eq 23, 19, 39), (19, .iload_n 3, 20, 0), (20, .iconst 0, 21, 0), (21, .bipush 20, 23, 0), (23, .invokestatic 56, 26, 0), (26, .ifCond .eq 13, 29, 39), (29, .iload 4, 31, 0), (31, .iconst 0, 32, 0), (32, .iconst 1, 33, 0), (33, .invokestatic 56, 36, 0), (36, .ifCond .ne 6, 39, 42), (39, .bipush (-2), 41, 0), (41, .ireturn, 42, 0), (42, .aload_n 0, 43, 0), (43, .invokevirtual 160, 46, 0), (46, .ifCond .ne 6, 49, 52), (49, .bipush (-5), 51, 0), (51, .ireturn, 52, 0), (52, .bipush (-6), 54, 0), (54, .istore 5, 56, 0), (56, .iconst 0, 57, 0), (57, .istore 6, 59, 0), (59, .iload 6, 61, 0), (61, .sipush 15625, 64, 0), (64, .if_icmp .ge 76, 67, 140), (67, .aload_n 0, 68, 0), (68, .getfield 39, 71, 0), (71, .iload 6, 73, 0), (73, .baload, 74, 0), (74, .ifCond .eq 60, 77, 134), (77, .iload_n 2, 78, 0), (78, .iload 6, 80, 0), (80, .iload_n 1, 81, 0), (81, .invokestatic 94, 84, 0), (84, .imul, 85, 0), (85, .iload_n 3, 86, 0), (86, .iload 6, 88, 0), (88, .iconst 3, 89, 0), (89, .iload_n 1, 90, 0), (90, .iadd, 91, 0), (91, .invokestatic 94, 94, 0), (94, .imul, 95, 0), (95, .iadd, 96, 0), (96, .istore 7, 98, 0), (98, .iload 5, 100, 0), (100, .ifCond .lt 25, 103, 125), (103, .iload 4, 105, 0), (105, .ifCond .ne 13, 108, 118), (108, .iload 7, 110, 0), (110, .iload 5, 112, 0), (112, .if_icmp .ge 18, 115, 130), (115, .goto 10, 118, 125), (118, .iload 7, 120, 0), (120, .iload 5, 122, 0), (122, .if_icmp .le 8, 125, 130), (125, .iload 7, 127, 0), (127, .goto 5, 130, 132), (130, .iload 5, 132, 0), (132, .istore 5, 134, 0), (134, .iinc 6 1, 137, 0), (137, .goto (-78), 140, 59), (140, .iload 5, 142, 0), (142, .ireturn, 143, 0)])
def M_X12_layOpen : wb_MD := (yX12_layOpen, cX12_layOpen, 5, none, { frames := 3, cells := 0, slots := 0, locals := 66 }, [(0, .iconst 0, 1, 0), (1, .istore_n 2, 2, 0), (2, .iload_n 2, 3, 0), (3, .sipush 625, 6, 0), (6, .if_icmp .ge 16, 9, 22), (9, .aload_n 0, 10, 0), (10, .getfield 47, 13, 0), (13, .iload_n 2, 14, 0), (14, .iconst 0, 15, 0), (15, .iastore, 16, 0), (16, .iinc 2 1, 19, 0), (19, .goto (-17), 22, 2), (22, .iconst 0, 23, 0), (23, .istore_n 2, 24, 0), (24, .iload_n 2, 25, 0), (25, .sipush 15625, 28, 0), (28, .if_icmp .ge 103, 31, 131), (31, .aload_n 0, 32, 0), (32, .getfield 36, 35, 0), (35, .iload_n 2, 36, 0), (36, .baload, 37, 0), (37, .istore_n 3, 38, 0), (38, .iconst 0, 39, 0), (39, .istore 4, 41, 0), (41, .iload 4, 43, 0), (43, .iconst 3, 44, 0), (44, .if_icmp .ge 35, 47, 79), (47, .iload_n 3, 48, 0), (48, .ifCond .eq 31, 51, 79), (51, .iload 4, 53, 0), (53, .iload_n 1, 54, 0), (54, .if_icmp .eq 13, 57, 67), (57, .aload_n 0, 58, 0), (58, .iload_n 2, 59, 0), (59, .iload 4, 61, 0), (61, .invokevirtual 138, 64, 0), (64, .ifCond .eq 7, 67, 71), (67, .iconst 1, 68, 0), (68, .goto 4, 71, 72), (71, .iconst 0, 72, 0), (72, .istore_n 3, 73, 0), (73, .iinc 4 1, 76, 0), (76, .goto (-35), 79, 41), (79, .aload_n 0, 80, 0), (80, .getfield 47, 83, 0), (83, .bipush 25, 85, 0), (85, .iload_n 2, 86, 0), (86, .iload_n 1, 87, 0), (87, .invokestatic 127, 90, 0), (90, .imul, 91, 0), (91, .iload_n 1, 92, 0), (92, .aload_n 0, 93, 0), (93, .getfield 16, 96, 0), (96, .if_icmp .ne 14, 99, 110), (99, .iload_n 2, 100, 0), (100, .aload_n 0, 101, 0), (101, .getfield 20, 104, 0), (104, .invokestatic 127, 107, 0), (107, .goto 4, 110, 111), (110, .iconst 0, 111, 0), (111, .iadd, 112, 0), (112, .dup2, 113, 0), (113, .iaload, 114, 0), (114, .iload_n 3, 115, 0), (115, .ifCond .eq 7, 118, 122), (118, .iconst 1, 119, 0), (119, .goto 4, 122, 123), (122, .iconst 0, 123, 0), (123, .iadd, 124, 0), (124, .iastore, 125, 0), (125, .iinc 2 1, 128, 0), (128, .goto (-104), 131, 24), (131, .return_, 132, 0)])
def M_X12_countTried : wb_MD := (yX12_countTried, cX12_countTried, 4, (some .int), { frames := 3, cells := 0, slots := 0, locals := 76 }, [(0, .iconst 0, 1, 0), (1, .istore_n 2, 2, 0), (2, .iconst 0, 3, 0), (3, .istore_n 3, 4, 0), (4, .iload_n 3, 5, 0), (5, .sipush 625, 8, 0), (8, .if_icmp .ge 60, 11, 68), (11, .aload_n 0, 12, 0), (12, .getfield 47, 15, 0), (15, .iload_n 3, 16, 0), (16, .iaload, 17, 0), (17, .ifCond .le 45, 20, 62), (20, .iload_n 2, 21, 0), (21, .aload_n 0, 22, 0), (22, .iload_n 1, 23, 0), (23, .iload_n 3, 24, 0), (24, .bipush 25, 26, 0), (26, .idiv, 27, 0), (27, .iload_n 3, 28, 0), (28, .bipush 25, 30, 0), (30, .idiv, 31, 0), (31, .iload_n 3, 32, 0), (32, .bipush 25, 34, 0), (34, .irem, 35, 0), (35, .iload_n 3, 36, 0), (36, .bipush 25, 38, 0), (38, .irem, 39, 0), (39, .iconst 0, 40, 0), (40, .invokevirtual 130, 43, 0), (43, .aload_n 0, 44, 0), (44, .getfield 60, 47, 0), (47, .if_icmp .ne 12, 50, 59), (50, .aload_n 0, 51, 0), (51, .getfield 47, 54, 0), (54, .iload_n 3, 55, 0), (55, .iaload, 56, 0), (56, .goto 4, 59, 60), (59, .iconst 0, 60, 0), (60, .iadd, 61, 0), (61, .istore_n 2, 62, 0), (62, .iinc 3 1, 65, 0), (65, .goto (-61), 68, 4), (68, .iload_n 2, 69, 0), (69, .ireturn, 70, 0)])
def M_X12_settle : wb_MD := (yX12_settle, cX12_settle, 8, (some .int), { frames := 6, cells := 0, slots := 0, locals := 140 }, [(0, .iload_n 1, 1, 0), (1, .iconst 0, 2, 0), (2, .iconst 2, 3, 0), (3, .invokestatic 56, 6, 0), (6, .ifCond .ne 6, 9, 12), (9, .bipush (-2), 11, 0), (11, .ireturn, 12, 0), (12, .aload_n 0, 13, 0), (13, .getfield 60, 16, 0), (16, .ifCond .ne 6, 19, 22), (19, .bipush (-3), 21, 0), (21, .ireturn, 22, 0), (22, .aload_n 0, 23, 0), (23, .invokevirtual 160, 26, 0), (26, .ifCond .ne 6, 29, 32), (29, .bipush (-5), 31, 0), (31, .ireturn, 32, 0), (32, .bipush (-6), 34, 0), (34, .istore_n 2, 35, 0), (35, .iconst 0, 36, 0), (36, .istore_n 3, 37, 0), (37, .iconst 0, 38, 0), (38, .istore 4, 40, 0), (40, .iload 4, 42, 0), (42, .iconst 3, 43, 0), (43, .if_icmp .ge 80, 46, 123), (46, .aload_n 0, 47, 0), (47, .iload 4, 49, 0), (49, .invokevirtual 186, 52, 0), (52, .iconst 0, 53, 0), (53, .istore 5, 55, 0), (55, .iload 5, 57, 0), (57, .aload_n 0, 58, 0), (58, .getfield 60, 61, 0), (61, .if_icmp .ge 56, 64, 117), (64, .aload_n 0, 65, 0), (65, .iload 5, 67, 0), (67, .iload 4, 69, 0), (69, .invokevirtual 189, 72, 0), (72, .istore 6, 74, 0), (74, .iconst 3, 75, 0), (75, .iload 5, 77, 0), (77, .imul, 78, 0), (78, .iload 4, 80, 0), (80, .iadd, 81, 0), (81, .istore 7, 83, 0), (83, .iload_n 2, 84, 0), (84, .ifCond .lt 21, 87, 105), (87, .iload 6, 89, 0), (89, .iload_n 3, 90, 0), (90, .if_icmp .lt 15, 93, 105), (93, .iload 6, 95, 0), (95, .iload_n 3, 96, 0), (96, .if_icmp .ne 15, 99, 111), (99, .iload 7, 101, 0), (101, .iload_n 2, 102, 0), (102, .if_icmp .ge 9, 105, 111), (105, .iload 7, 107, 0), (107, .istore_n 2, 108, 0), (108, .iload 6, 110, 0), (110, .istore_n 3, 111, 0), (111, .iinc 5 1, 114, 0), (114, .goto (-59), 117, 55), (117, .iinc 4 1, 120, 0), (120, .goto (-80), 123, 40), (123, .iload_n 1, 124, 0), (124, .ifCond .ne 9, 127, 133), (127, .iload_n 2, 128, 0), (128, .iconst 3, 129, 0), (129, .idiv, 130, 0), (130, .goto 15, 133, 145), (133, .iload_n 1, 134, 0), (134, .iconst 1, 135, 0), (135, .if_icmp .ne 9, 138, 144), (138, .iload_n 2, 139, 0), (139, .iconst 3, 140, 0), (140, .irem, 141, 0), (141, .goto 4, 144, 145), (144, .iload_n 3, 145, 0), (145, .ireturn, 146, 0)])
def M_X12_mostBy : wb_MD := (yX12_mostBy, cX12_mostBy, 8, (some .int), { frames := 4, cells := 0, slots := 0, locals := 99 }, [(0, .aload_n 0, 1, 0), (1, .getfield 7, 4, 0), (4, .bipush 9, 6, 0), (6, .iload_n 1, 7, 0), (7, .imul, 8, 0), (8, .iload_n 2, 9, 0), (9, .iadd, 10, 0), (10, .iaload, 11, 0), (11, .istore_n 3, 12, 0), (12, .aload_n 0, 13, 0), (13, .getfield 7, 16, 0), (16, .bipush 9, 18, 0), (18, .iload_n 1, 19, 0), (19, .imul, 20, 0), (20, .iconst 3, 21, 0), (21, .iadd, 22, 0), (22, .iaload, 23, 0), (23, .istore 4, 25, 0), (25, .iconst 0, 26, 0), (26, .istore 5, 28, 0), (28, .aload_n 0, 29, 0), (29, .iload_n 1, 30, 0), (30, .putfield 29, 33, 0), (33, .aload_n 0, 34, 0), (34, .iload_n 2, 35, 0), (35, .putfield 104, 38, 0), (38, .iload_n 3, 39, 0), (39, .iload 4, 41, 0), (41, .if_icmp .ge 7, 44, 48), (44, .iconst 0, 45, 0), (45, .goto 7, 48, 52), (48, .iload_n 3, 49, 0), (49, .iload 4, 51, 0), (51, .isub, 52, 0), (52, .istore 6, 54, 0), (54, .iload 6, 56, 0), (56, .iload_n 3, 57, 0), (57, .iload 4, 59, 0), (59, .iadd, 60, 0), (60, .if_icmp .gt 38, 63, 98), (63, .aload_n 0, 64, 0), (64, .iload 6, 66, 0), (66, .putfield 107, 69, 0), (69, .aload_n 0, 70, 0), (70, .iload_n 2, 71, 0), (71, .invokevirtual 192, 74, 0), (74, .istore 7, 76, 0), (76, .iload 7, 78, 0), (78, .iload 5, 80, 0), (80, .if_icmp .le 8, 83, 88), (83, .iload 7, 85, 0), (85, .goto 5, 88, 90), (88, .iload 5, 90, 0), (90, .istore 5, 92, 0), (92, .iinc 6 1, 95, 0), (95, .goto (-41), 98, 54), (98, .aload_n 0, 99, 0), (99, .bipush (-6), 101, 0), (101, .putfield 29, 104, 0), (104, .iload 5, 106, 0), (106, .ireturn, 107, 0)])
def M_X12_hide : wb_MD := (yX12_hide, cX12_hide, 13, (some .int), { frames := 6, cells := 0, slots := 0, locals := 140 }, [(0, .iload_n 1, 1, 0), (1, .iconst 0, 2, 0), (2, .sipush 999, 5, 0), (5, .invokestatic 56, 8, 0), (8, .ifCond .eq 12, 11, 20), (11, .iload_n 2, 12, 0), (12, .iconst 0, 13, 0), (13, .iconst 3, 14, 0), (14, .invokestatic 56, 17, 0), (17, .ifCond .ne 6, 20, 23), (20, .bipush (-2), 22, 0), (22, .ireturn, 23, 0), (23, .aload_n 0, 24, 0), (24, .getfield 60, 27, 0), (27, .ifCond .ne 6, 30, 33), (30, .bipush (-3), 32, 0), (32, .ireturn, 33, 0), (33, .aload_n 0, 34, 0), (34, .invokevirtual 160, 37, 0), (37, .pop, 38, 0), (38, .bipush (-6), 40, 0), (40, .istore_n 3, 41, 0), (41, .iconst 0, 42, 0), (42, .istore 4, 44, 0), (44, .iconst 0, 45, 0), (45, .istore 5, 47, 0), (47, .iconst 0, 48, 0), (48, .istore 6, 50, 0), (50, .iload 6, 52, 0), (52, .iconst 3, 53, 0), (53, .if_icmp .ge 186, 56, 239), (56, .aload_n 0, 57, 0), (57, .iload 6, 59, 0), (59, .invokevirtual 186, 62, 0), (62, .iconst 0, 63, 0), (63, .istore 7, 65, 0), (65, .iload 7, 67, 0), (67, .aload_n 0, 68, 0), (68, .getfield 60, 71, 0), (71, .if_icmp .ge 162, 74, 233), (74, .iconst 1, 75, 0), (75, .istore 8, 77, 0), (77, .iload 8, 79, 0), (79, .bipush 10, 81, 0), (81, .if_icmp .ge 146, 84, 227), (84, .iload 8, 86, 0), (86, .aload_n 0, 87, 0), (87, .getfield 7, 90, 0), (90, .bipush 9, 92, 0), (92, .iload 7, 94, 0), (94, .imul, 95, 0), (95, .bipush 6, 97, 0), (97, .iadd, 98, 0), (98, .iload 6, 100, 0), (100, .iadd, 101, 0), (101, .iaload, 102, 0), (102, .imul, 103, 0), (103, .istore 9, 105, 0), (105, .iload 9, 107, 0), (107, .iload_n 1, 108, 0), (108, .if_icmp .gt 113, 111, 221), (111, .aload_n 0, 112, 0), (112, .iload 7, 114, 0), (114, .putfield 29, 117, 0), (117, .aload_n 0, 118, 0), (118, .iload 6, 120, 0), (120, .putfield 104, 123, 0), (123, .aload_n 0, 124, 0), (124, .iload 8, 126, 0), (126, .ineg, 127, 0), (127, .putfield 107, 130, 0), (130, .aload_n 0, 131, 0), (131, .iload 6, 133, 0), (133, .invokevirtual 192, 136, 0), (136, .istore 10, 138, 0), (138, .aload_n 0, 139, 0), (139, .bipush (-6), 141, 0), (141, .putfield 29, 144, 0), (144, .bipush 30, 146, 0), (146, .iload 7, 148, 0), (148, .imul, 149, 0), (149, .bipush 10, 151, 0), (151, .iload 6, 153, 0), (153, .imul, 154, 0), (154, .iadd, 155, 0), (155, .iload 8, 157, 0), (157, .iadd, 158, 0), (158, .istore 11, 160, 0), (160, .iload 10, 162, 0), (162, .iload 4, 164, 0), (164, .if_icmp .gt 30, 167, 194), (167, .iload 10, 169, 0), (169, .iload 4, 171, 0), (171, .if_icmp .ne 27, 174, 198), (174, .iload 9, 176, 0), (176, .iload 5, 178, 0), (178, .if_icmp .lt 16, 181, 194), (181, .iload 9, 183, 0), (183, .iload 5, 185, 0), (185, .if_icmp .ne 13, 188, 198), (188, .iload 11, 190, 0), (190, .iload_n 3, 191, 0), (191, .if_icmp .ge 7, 194, 198), (194, .iconst 1, 195, 0), (195, .goto 4, 198, 199), (198, .iconst 0, 199, 0), (199, .istore 12, 201, 0), (201, .iload_n 3, 202, 0), (202, .ifCond .lt 8, 205, 210), (205, .iload 12, 207, 0), (207, .ifCond .eq 14, 210, 221), (210, .iload 11, 212, 0), (212, .istore_n 3, 213, 0), (213, .iload 10, 215, 0), (215, .istore 4, 217, 0), (217, .iload 9, 219, 0), (219, .istore 5, 221, 0), (221, .iinc 8 1, 224, 0), (224, .goto (-147), 227, 77), (227, .iinc 7 1, 230, 0), (230, .goto (-165), 233, 65), (233, .iinc 6 1, 236, 0), (236, .goto (-186), 239, 50), (239, .iload_n 3, 240, 0), (240, .ifCond .ge 8, 243, 248), (243, .bipush (-5), 245, 0), (245, .goto 43, 248, 288), (248, .iload_n 2, 249, 0), (249, .ifCond .ne 10, 252, 259), (252, .iload_n 3, 253, 0), (253, .bipush 30, 255, 0), (255, .idiv, 256, 0), (256, .goto 32, 259, 288), (259, .iload_n 2, 260, 0), (260, .iconst 1, 261, 0), (261, .if_icmp .ne 13, 264, 274), (264, .iload_n 3, 265, 0), (265, .bipush 30, 267, 0), (267, .irem, 268, 0), (268, .bipush 10, 270, 0), (270, .idiv, 271, 0), (271, .goto 17, 274, 288), (274, .iload_n 2, 275, 0), (275, .iconst 2, 276, 0), (276, .if_icmp .ne 10, 279, 286), (279, .iload_n 3, 280, 0), (280, .bipush 10, 282, 0), (282, .irem, 283, 0), (283, .goto 5, 286, 288), (286, .iload 4, 288, 0), (288, .ireturn, 289, 0)])
def M_X12_image : wb_MD := (yX12_image, cX12_image, 4, (some .int), { frames := 1, cells := 0, slots := 0, locals := 22 }, [(0, .iload_n 1, 1, 0), (1, .iconst 0, 2, 0), (2, .iconst 1, 3, 0), (3, .invokestatic 56, 6, 0), (6, .ifCond .ne 6, 9, 12), (9, .bipush (-2), 11, 0), (11, .ireturn, 12, 0), (12, .sipush 140, 15, 0), (15, .iload_n 1, 16, 0), (16, .imul, 17, 0), (17, .istore_n 2, 18, 0), (18, .aload_n 0, 19, 0), (19, .getfield 50, 22, 0), (22, .iload_n 2, 23, 0), (23, .aload_n 0, 24, 0), (24, .getfield 60, 27, 0), (27, .iastore, 28, 0), (28, .aload_n 0, 29, 0), (29, .getfield 50, 32, 0), (32, .iload_n 2, 33, 0), (33, .iconst 1, 34, 0), (34, .iadd, 35, 0), (35, .aload_n 0, 36, 0), (36, .getfield 16, 39, 0), (39, .iastore, 40, 0), (40, .aload_n 0, 41, 0), (41, .getfield 50, 44, 0), (44, .iload_n 2, 45, 0), (45, .iconst 2, 46, 0), (46, .iadd, 47, 0), (47, .aload_n 0, 48, 0), (48, .getfield 20, 51, 0), (51, .iastore, 52, 0), (52, .aload_n 0, 53, 0), (53, .getfield 50, 56, 0), (56, .iload_n 2, 57, 0), (57, .iconst 3, 58, 0), (58, .iadd, 59, 0), (59, .aload_n 0, 60, 0), (60, .getfield 88, 63, 0), (63, .iastore, 64, 0), (64, .iconst 0, 65, 0), (65, .istore_n 3, 66, 0), (66, .iload_n 3, 67, 0), (67, .bipush 72, 69, 0), (69, .if_icmp .ge 25, 72, 94), (72, .aload_n 0, 73, 0), (73, .getfield 50, 76, 0), (76, .iload_n 2, 77, 0), (77, .iconst 4, 78, 0), (78, .iadd, 79, 0), (79, .iload_n 3, 80, 0), (80, .iadd, 81, 0), (81, .aload_n 0, 82, 0), (82, .getfield 7, 85, 0), (85, .iload_n 3, 86, 0), (86, .iaload, 87, 0), (87, .iastore, 88, 0), (88, .iinc 3 1, 91, 0), (91, .goto (-25), 94, 66), (94, .iconst 0, 95, 0), (95, .istore_n 3, 96, 0), (96, .iload_n 3, 97, 0), (97, .bipush 12, 99, 0), (99, .if_icmp .ge 26, 102, 125), (102, .aload_n 0, 103, 0), (103, .getfield 50, 106, 0), (106, .iload_n 2, 107, 0), (107, .bipush 76, 109, 0), (109, .iadd, 110, 0), (110, .iload_n 3, 111, 0), (111, .iadd, 112, 0), (112, .aload_n 0, 113, 0), (113, .getfield 13, 116, 0), (116, .iload_n 3, 117, 0), (117, .iaload, 118, 0), (118, .iastore, 119, 0), (119, .iinc 3 1, 122, 0), (122, .goto (-26), 125, 96), (125, .iconst 0, 126, 0), (126, .istore_n 3, 127, 0), (127, .iload_n 3, 128, 0), (128, .bipush 50, 130, 0), (130, .if_icmp .ge 26, 133, 156), (133, .aload_n 0, 134, 0), (134, .getfield 50, 137, 0), (137, .iload_n 2, 138, 0), (138, .bipush 88, 140, 0), (140, .iadd, 141, 0), (141, .iload_n 3, 142, 0), (142, .iadd, 143, 0), (143, .aload_n 0, 144, 0), (144, .getfield 26, 147, 0), (147, .iload_n 3, 148, 0), (148, .iaload, 149, 0), (149, .iastore, 150, 0), (150, .iinc 3 1, 153, 0), (153, .goto (-26), 156, 127), (156, .aload_n 0, 157, 0), (157, .getfield 53, 160, 0), (160, .iload_n 1, 161, 0), (161, .iconst 1, 162, 0), (162, .bastore, 163, 0), (163, .iconst 1, 164, 0), (164, .ireturn, 165, 0)])
def M_X12_restore : wb_MD := (yX12_restore, cX12_restore, 4, (some .int), { frames := 1, cells := 0, slots := 0, locals := 22 }, [(0, .iload_n 1, 1, 0), (1, .iconst 0, 2, 0), (2, .iconst 1, 3, 0), (3, .invokestatic 56, 6, 0), (6, .ifCond .ne 6, 9, 12), (9, .bipush (-2), 11, 0), (11, .ireturn, 12, 0), (12, .aload_n 0, 13, 0), (13, .getfield 53, 16, 0), (16, .iload_n 1, 17, 0), (17, .baload, 18, 0), (18, .ifCond .ne 6, 21, 24), (21, .bipush (-3), 23, 0), (23, .ireturn, 24, 0), (24, .sipush 140, 27, 0), (27, .iload_n 1, 28, 0), (28, .imul, 29, 0), (29, .istore_n 2, 30, 0), (30, .aload_n 0, 31, 0), (31, .aload_n 0, 32, 0), (32, .getfield 50, 35, 0), (35, .iload_n 2, 36, 0), (36, .iaload, 37, 0), (37, .putfield 60, 40, 0), (40, .aload_n 0, 41, 0), (41, .aload_n 0, 42, 0), (42, .getfield 50, 45, 0), (45, .iload_n 2, 46, 0), (46, .iconst 1, 47, 0), (47, .iadd, 48, 0), (48, .iaload, 49, 0), (49, .putfield 16, 52, 0), (52, .aload_n 0, 53, 0), (53, .aload_n 0, 54, 0), (54, .getfield 50, 57, 0), (57, .iload_n 2, 58, 0), (58, .iconst 2, 59, 0), (59, .iadd, 60, 0), (60, .iaload, 61, 0), (61, .putfield 20, 64, 0), (64, .aload_n 0, 65, 0), (65, .aload_n 0, 66, 0), (66, .getfield 50, 69, 0), (69, .iload_n 2, 70, 0), (70, .iconst 3, 71, 0), (71, .iadd, 72, 0), (72, .iaload, 73, 0), (73, .putfield 88, 76, 0), (76, .iconst 0, 77, 0), (77, .istore_n 3, 78, 0), (78, .iload_n 3, 79, 0), (79, .bipush 72, 81, 0), (81, .if_icmp .ge 25, 84, 106), (84, .aload_n 0, 85, 0), (85, .getfield 7, 88, 0), (88, .iload_n 3, 89, 0), (89, .aload_n 0, 90, 0), (90, .getfield 50, 93, 0), (93, .iload_n 2, 94, 0), (94, .iconst 4, 95, 0), (95, .iadd, 96, 0), (96, .iload_n 3, 97, 0), (97, .iadd, 98, 0), (98, .iaload, 99, 0), (99, .iastore, 100, 0), (100, .iinc 3 1, 103, 0), (103, .goto (-25), 106, 78), (106, .iconst 0, 107, 0), (107, .istore_n 3, 108, 0), (108, .iload_n 3, 109, 0), (109, .bipush 12, 111, 0), (111, .if_icmp .ge 26, 114, 137), (114, .aload_n 0, 115, 0), (115, .getfield 13, 118, 0), (118, .iload_n 3, 119, 0), (119, .aload_n 0, 120, 0), (120, .getfield 50, 123, 0), (123, .iload_n 2, 124, 0), (124, .bipush 76, 126, 0), (126, .iadd, 127, 0), (127, .iload_n 3, 128, 0), (128, .iadd, 129, 0), (129, .iaload, 130, 0), (130, .iastore, 131, 0), (131, .iinc 3 1, 134, 0), (134, .goto (-26), 137, 108), (137, .iconst 0, 138, 0), (138, .istore_n 3, 139, 0), (139, .iload_n 3, 140, 0), (140, .bipush 50, 142, 0), (142, .if_icmp .ge 26, 145, 168), (145, .aload_n 0, 146, 0), (146, .getfield 26, 149, 0), (149, .iload_n 3, 150, 0), (150, .aload_n 0, 151, 0), (151, .getfield 50, 154, 0), (154, .iload_n 2, 155, 0), (155, .bipush 88, 157, 0), (157, .iadd, 158, 0), (158, .iload_n 3, 159, 0), (159, .iadd, 160, 0), (160, .iaload, 161, 0), (161, .iastore, 162, 0), (162, .iinc 3 1, 165, 0), (165, .goto (-26), 168, 139), (168, .aload_n 0, 169, 0), (169, .iconst 0, 170, 0), (170, .putfield 63, 173, 0), (173, .iconst 1, 174, 0), (174, .ireturn, 175, 0)])
def M_X12_told : wb_MD := (yX12_told, cX12_told, 2, (some .int), { frames := 1, cells := 0, slots := 0, locals := 22 }, [(0, .iload_n 1, 1, 0), (1, .bipush 10, 3, 0), (3, .bipush 21, 5, 0), (5, .invokestatic 56, 8, 0), (8, .ifCond .eq 13, 11, 21), (11, .aload_n 0, 12, 0), (12, .getfield 13, 15, 0), (15, .iload_n 1, 16, 0), (16, .bipush 10, 18, 0), (18, .isub, 19, 0), (19, .iaload, 20, 0), (20, .ireturn, 21, 0), (21, .iload_n 1, 22, 0), (22, .ifCond .ne 10, 25, 32), (25, .aload_n 0, 26, 0), (26, .getfield 60, 29, 0), (29, .goto 41, 32, 70), (32, .iload_n 1, 33, 0), (33, .iconst 1, 34, 0), (34, .if_icmp .ne 10, 37, 44), (37, .aload_n 0, 38, 0), (38, .getfield 82, 41, 0), (41, .goto 29, 44, 70), (44, .iload_n 1, 45, 0), (45, .iconst 2, 46, 0), (46, .if_icmp .ne 10, 49, 56), (49, .aload_n 0, 50, 0), (50, .invokevirtual 91, 53, 0), (53, .goto 17, 56, 70), (56, .iload_n 1, 57, 0), (57, .iconst 3, 58, 0), (58, .if_icmp .ne 10, 61, 68), (61, .aload_n 0, 62, 0), (62, .invokevirtual 78, 65, 0), (65, .goto 5, 68, 70), (68, .bipush (-2), 70, 0), (70, .ireturn, 71, 0)])
def M_J6_bitCount_0f7a4 : wb_MD := (yJ6_bitCount_0f7a4, cJ6_bitCount_0f7a4, 1, (some .int), { frames := 0, cells := 0, slots := 0, locals := 0 }, [(0, .iload_n 0, 1, 0), (1, .iload_n 0, 2, 0), (2, .iconst 1, 3, 0), (3, .iushr, 4, 0), (4, .ldc_w 265, 7, 0), (7, .iand, 8, 0), (8, .isub, 9, 0), (9, .istore_n 0, 10, 0), (10, .iload_n 0, 11, 0), (11, .ldc_w 266, 14, 0), (14, .iand, 15, 0), (15, .iload_n 0, 16, 0), (16, .iconst 2, 17, 0), (17, .iushr, 18, 0), (18, .ldc_w 266, 21, 0), (21, .iand, 22, 0), (22, .iadd, 23, 0), (23, .istore_n 0, 24, 0), (24, .iload_n 0, 25, 0), (25, .iload_n 0, 26, 0), (26, .iconst 4, 27, 0), (27, .iushr, 28, 0), (28, .iadd, 29, 0), (29, .ldc_w 267, 32, 0), (32, .iand, 33, 0), (33, .istore_n 0, 34, 0), (34, .iload_n 0, 35, 0), (35, .iload_n 0, 36, 0), (36, .bipush 8, 38, 0), (38, .iushr, 39, 0), (39, .iadd, 40, 0), (40, .istore_n 0, 41, 0), (41, .iload_n 0, 42, 0), (42, .iload_n 0, 43, 0), (43, .bipush 16, 45, 0), (45, .iushr, 46, 0), (46, .iadd, 47, 0), (47, .istore_n 0, 48, 0), (48, .iload_n 0, 49, 0), (49, .bipush 63, 51, 0), (51, .iand, 52, 0), (52, .ireturn, 53, 0)])
def M_J13_bitCount_95d88 : wb_MD := (yJ13_bitCount_95d88, cJ13_bitCount_95d88, 2, (some .int), { frames := 0, cells := 0, slots := 0, locals := 0 }, [(0, .lload_n 0, 1, 0), (1, .lload_n 0, 2, 0), (2, .iconst 1, 3, 0), (3, .lushr, 4, 0), (4, .ldc2_w 314, 7, 0), (7, .land, 8, 0), (8, .lsub, 9, 0), (9, .lstore_n 0, 10, 0), (10, .lload_n 0, 11, 0), (11, .ldc2_w 316, 14, 0), (14, .land, 15, 0), (15, .lload_n 0, 16, 0), (16, .iconst 2, 17, 0), (17, .lushr, 18, 0), (18, .ldc2_w 316, 21, 0), (21, .land, 22, 0), (22, .ladd, 23, 0), (23, .lstore_n 0, 24, 0), (24, .lload_n 0, 25, 0), (25, .lload_n 0, 26, 0), (26, .iconst 4, 27, 0), (27, .lushr, 28, 0), (28, .ladd, 29, 0), (29, .ldc2_w 318, 32, 0), (32, .land, 33, 0), (33, .lstore_n 0, 34, 0), (34, .lload_n 0, 35, 0), (35, .lload_n 0, 36, 0), (36, .bipush 8, 38, 0), (38, .lushr, 39, 0), (39, .ladd, 40, 0), (40, .lstore_n 0, 41, 0), (41, .lload_n 0, 42, 0), (42, .lload_n 0, 43, 0), (43, .bipush 16, 45, 0), (45, .lushr, 46, 0), (46, .ladd, 47, 0), (47, .lstore_n 0, 48, 0), (48, .lload_n 0, 49, 0), (49, .lload_n 0, 50, 0), (50, .bipush 32, 52, 0), (52, .lushr, 53, 0), (53, .ladd, 54, 0), (54, .lstore_n 0, 55, 0), (55, .lload_n 0, 56, 0), (56, .l2i, 57, 0), (57, .bipush 127, 59, 0), (59, .iand, 60, 0), (60, .ireturn, 61, 0)])
def M_J9_max_7cf53 : wb_MD := (yJ9_max_7cf53, cJ9_max_7cf53, 2, (some .int), { frames := 0, cells := 0, slots := 0, locals := 0 }, [(0, .iload_n 0, 1, 0), (1, .iload_n 1, 2, 0), (2, .if_icmp .lt 7, 5, 9), (5, .iload_n 0, 6, 0), (6, .goto 4, 9, 10), (9, .iload_n 1, 10, 0), (10, .ireturn, 11, 0)])
def M_J9_min_7cf53 : wb_MD := (yJ9_min_7cf53, cJ9_min_7cf53, 2, (some .int), { frames := 0, cells := 0, slots := 0, locals := 0 }, [(0, .iload_n 0, 1, 0), (1, .iload_n 1, 2, 0), (2, .if_icmp .gt 7, 5, 9), (5, .iload_n 0, 6, 0), (6, .goto 4, 9, 10), (9, .iload_n 1, 10, 0), (10, .ireturn, 11, 0)])
def M_L_law : wb_MD := (yL_law, cL_law, 4, (some .boolean), { frames := 10, cells := 600000, slots := 7302250, locals := 408 }, [(0, .new 7, 3, 0), (3, .dup, 4, 0), (4, .invokespecial 9, 7, 0), (7, .astore_n 1, 8, 0), (8, .new 10, 11, 0), (11, .dup, 12, 0), (12, .invokespecial 12, 15, 0), (15, .astore_n 2, 16, 0), (16, .iconst 0, 17, 0), (17, .istore_n 3, 18, 0), (18, .iload_n 3, 19, 0), (19, .aload_n 0, 20, 0), (20, .arraylength, 21, 0), (21, .bipush 7, 23, 0), (23, .isub, 24, 0), (24, .if_icmp .gt 1072, 27, 1096), (27, .aload_n 0, 28, 0), (28, .iload_n 3, 29, 0), (29, .iaload, 30, 0), (30, .bipush 31, 32, 0), (32, .iand, 33, 0), (33, .tableswitch 1057 0 29 #[135, 210, 253, 286, 299, 342, 375, 398, 411, 424, 437, 450, 483, 526, 559, 612, 635, 678, 701, 724, 747, 770, 793, 836, 879, 932, 955, 988, 1011, 1034], 168, 0), (168, .aload_n 1, 169, 0), (169, .aload_n 0, 170, 0), (170, .iload_n 3, 171, 0), (171, .iconst 1, 172, 0), (172, .iadd, 173, 0), (173, .iaload, 174, 0), (174, .aload_n 0, 175, 0), (175, .iload_n 3, 176, 0), (176, .iconst 2, 177, 0), (177, .iadd, 178, 0), (178, .iaload, 179, 0), (179, .aload_n 0, 180, 0), (180, .iload_n 3, 181, 0), (181, .iconst 3, 182, 0), (182, .iadd, 183, 0), (183, .iaload, 184, 0), (184, .aload_n 0, 185, 0), (185, .iload_n 3, 186, 0), (186, .iconst 4, 187, 0), (187, .iadd, 188, 0), (188, .iaload, 189, 0), (189, .aload_n 0, 190, 0), (190, .iload_n 3, 191, 0), (191, .iconst 5, 192, 0), (192, .iadd, 193, 0), (193, .iaload, 194, 0), (194, .aload_n 0, 195, 0), (195, .iload_n 3, 196, 0), (196, .bipush 6, 198, 0), (198, .iadd, 199, 0), (199, .iaload, 200, 0), (200, .invokevirtual 13, 203, 0), (203, .aload_n 2, 204, 0), (204, .aload_n 0, 205, 0), (205, .iload_n 3, 206, 0), (206, .iconst 1, 207, 0), (207, .iadd, 208, 0), (208, .iaload, 209, 0), (209, .aload_n 0, 210, 0), (210, .iload_n 3, 211, 0), (211, .iconst 2, 212, 0), (212, .iadd, 213, 0), (213, .iaload, 214, 0), (214, .aload_n 0, 215, 0), (215, .iload_n 3, 216, 0), (216, .iconst 3, 217, 0), (217, .iadd, 218, 0), (218, .iaload, 219, 0), (219, .aload_n 0, 220, 0), (220, .iload_n 3, 221, 0), (221, .iconst 4, 222, 0), (222, .iadd, 223, 0), (223, .iaload, 224, 0), (224, .aload_n 0, 225, 0), (225, .iload_n 3, 226, 0), (226, .iconst 5, 227, 0), (227, .iadd, 228, 0), (228, .iaload, 229, 0), (229, .aload_n 0, 230, 0), (230, .iload_n 3, 231, 0), (231, .bipush 6, 233, 0), (233, .iadd, 234, 0), (234, .iaload, 235, 0), (235, .invokevirtual 17, 238, 0), (238, .if_icmp .eq 852, 241, 1090), (241, .iconst 0, 242, 0), (242, .ireturn, 243, 0), (243, .aload_n 1, 244, 0), (244, .aload_n 0, 245, 0), (245, .iload_n 3, 246, 0), (246, .iconst 1, 247, 0), (247, .iadd, 248, 0), (248, .iaload, 249, 0), (249, .aload_n 0, 250, 0), (250, .iload_n 3, 251, 0), (251, .iconst 2, 252, 0), (252, .iadd, 253, 0), (253, .iaload, 254, 0), (254, .aload_n 0, 255, 0), (255, .iload_n 3, 256, 0), (256, .iconst 3, 257, 0), (257, .iadd, 258, 0), (258, .iaload, 259, 0), (259, .invokevirtual 18, 262, 0), (262, .aload_n 2, 263, 0), (263, .aload_n 0, 264, 0), (264, .iload_n 3, 265, 0), (265, .iconst 1, 266, 0), (266, .iadd, 267, 0), (267, .iaload, 268, 0), (268, .aload_n 0, 269, 0), (269, .iload_n 3, 270, 0), (270, .iconst 2, 271, 0), (271, .iadd, 272, 0), (272, .iaload, 273, 0), (273, .aload_n 0, 274, 0), (274, .iload_n 3, 275, 0), (275, .iconst 3, 276, 0), (276, .iadd, 277, 0), (277, .iaload, 278, 0), (278, .invokevirtual 22, 281, 0), (281, .if_icmp .eq 809, 284, 1090), (284, .iconst 0, 285, 0), (285, .ireturn, 286, 0), (286, .aload_n 1, 287, 0), (287, .aload_n 0, 288, 0), (288, .iload_n 3, 289, 0), (289, .iconst 1, 290, 0), (290, .iadd, 291, 0), (291, .iaload, 292, 0), (292, .aload_n 0, 293, 0), (293, .iload_n 3, 294, 0), (294, .iconst 2, 295, 0), (295, .iadd, 296, 0), (296, .iaload, 297, 0), (297, .invokevirtual 23, 300, 0), (300, .aload_n 2, 301, 0), (301, .aload_n 0, 302, 0), (302, .iload_n 3, 303, 0), (303, .iconst 1, 304, 0), (304, .iadd, 305, 0), (305, .iaload, 306, 0), (306, .aload_n 0, 307, 0), (307, .iload_n 3, 308, 0), (308, .iconst 2, 309, 0), (309, .iadd, 310, 0), (310, .iaload, 311, 0), (311, .invokevirtual 27, 314, 0), (314, .if_icmp .eq 776, 317, 1090), (317, .iconst 0, 318, 0), (318, .ireturn, 319, 0), (319, .aload_n 1, 320, 0), (320, .invokevirtual 28, 323, 0), (323, .aload_n 2, 324, 0), (324, .invokevirtual 32, 327, 0), (327, .if_icmp .eq 763, 330, 1090), (330, .iconst 0, 331, 0), (331, .ireturn, 332, 0), (332, .aload_n 1, 333, 0), (333, .aload_n 0, 334, 0), (334, .iload_n 3, 335, 0), (335, .iconst 1, 336, 0), (336, .iadd, 337, 0), (337, .iaload, 338, 0), (338, .aload_n 0, 339, 0), (339, .iload_n 3, 340, 0), (340, .iconst 2, 341, 0), (341, .iadd, 342, 0), (342, .iaload, 343, 0), (343, .aload_n 0, 344, 0), (344, .iload_n 3, 345, 0), (345, .iconst 3, 346, 0), (346, .iadd, 347, 0), (347, .iaload, 348, 0), (348, .invokevirtual 33, 351, 0), (351, .aload_n 2, 352, 0), (352, .aload_n 0, 353, 0), (353, .iload_n 3, 354, 0), (354, .iconst 1, 355, 0), (355, .iadd, 356, 0), (356, .iaload, 357, 0), (357, .aload_n 0, 358, 0), (358, .iload_n 3, 359, 0), (359, .iconst 2, 360, 0), (360, .iadd, 361, 0), (361, .iaload, 362, 0), (362, .aload_n 0, 363, 0), (363, .iload_n 3, 364, 0), (364, .iconst 3, 365, 0), (365, .iadd, 366, 0), (366, .iaload, 367, 0), (367, .invokevirtual 36, 370, 0), (370, .if_icmp .eq 720, 373, 1090), (373, .iconst 0, 374, 0), (374, .ireturn, 375, 0), (375, .aload_n 1, 376, 0), (376, .aload_n 0, 377, 0), (377, .iload_n 3, 378, 0), (378, .iconst 1, 379, 0), (379, .iadd, 380, 0), (380, .iaload, 381, 0), (381, .aload_n 0, 382, 0), (382, .iload_n 3, 383, 0), (383, .iconst 2, 384, 0), (384, .iadd, 385, 0), (385, .iaload, 386, 0), (386, .invokevirtual 37, 389, 0), (389, .aload_n 2, 390, 0), (390, .aload_n 0, 391, 0), (391, .iload_n 3, 392, 0), (392, .iconst 1, 393, 0), (393, .iadd, 394, 0), (394, .iaload, 395, 0), (395, .aload_n 0, 396, 0), (396, .iload_n 3, 397, 0), (397, .iconst 2, 398, 0), (398, .iadd, 399, 0), (399, .iaload, 400, 0), (400, .invokevirtual 40, 403, 0), (403, .if_icmp .eq 687, 406, 1090), (406, .iconst 0, 407, 0), (407, .ireturn, 408, 0), (408, .aload_n 1, 409, 0), (409, .aload_n 0, 410, 0), (410, .iload_n 3, 411, 0), (411, .iconst 1, 412, 0), (412, .iadd, 413, 0), (413, .iaload, 414, 0), (414, .invokevirtual 41, 417, 0), (417, .aload_n 2, 418, 0), (418, .aload_n 0, 419, 0), (419, .iload_n 3, 420, 0), (420, .iconst 1, 421, 0), (421, .iadd, 422, 0), (422, .iaload, 423, 0), (423, .invokevirtual 45, 426, 0), (426, .if_icmp .eq 664, 429, 1090), (429, .iconst 0, 430, 0), (430, .ireturn, 431, 0), (431, .aload_n 1, 432, 0), (432, .invokevirtual 46, 435, 0), (435, .aload_n 2, 436, 0), (436, .invokevirtual 49, 439, 0), (439, .if_icmp .eq 651, 442, 1090), (442, .iconst 0, 443, 0), (443, .ireturn, 444, 0), (444, .aload_n 1, 445, 0), (445, .invokevirtual 50, 448, 0), (448, .aload_n 2, 449, 0), (449, .invokevirtual 53, 452, 0), (452, .if_icmp .eq 638, 455, 1090), (455, .iconst 0, 456, 0), (456, .ireturn, 457, 0), (457, .aload_n 1, 458, 0), (458, .invokevirtual 54, 461, 0), (461, .aload_n 2, 462, 0), (462, .invokevirtual 57, 465, 0), (465, .if_icmp .eq 625, 468, 1090), (468, .iconst 0, 469, 0), (469, .ireturn, 470, 0), (470, .aload_n 1, 471, 0), (471, .invokevirtual 58, 474, 0), (474, .aload_n 2, 475, 0), (475, .invokevirtual 61, 478, 0), (478, .if_icmp .eq 612, 481, 1090), (481, .iconst 0, 482, 0), (482, .ireturn, 483, 0), (483, .aload_n 1, 484, 0), (484, .aload_n 0, 485, 0), (485, .iload_n 3, 486, 0), (486, .iconst 1, 487, 0), (487, .iadd, 488, 0), (488, .iaload, 489, 0), (489, .aload_n 0, 490, 0), (490, .iload_n 3, 491, 0), (491, .iconst 2, 492, 0), (492, .iadd, 493, 0), (493, .iaload, 494, 0), (494, .invokevirtual 62, 497, 0), (497, .aload_n 2, 498, 0), (498, .aload_n 0, 499, 0), (499, .iload_n 3, 500, 0), (500, .iconst 1, 501, 0), (501, .iadd, 502, 0), (502, .iaload, 503, 0), (503, .aload_n 0, 504, 0), (504, .iload_n 3, 505, 0), (505, .iconst 2, 506, 0), (506, .iadd, 507, 0), (507, .iaload, 508, 0), (508, .invokevirtual 65, 511, 0), (511, .if_icmp .eq 579, 514, 1090), (514, .iconst 0, 515, 0), (515, .ireturn, 516, 0), (516, .aload_n 1, 517, 0), (517, .aload_n 0, 518, 0), (518, .iload_n 3, 519, 0), (519, .iconst 1, 520, 0), (520, .iadd, 521, 0), (521, .iaload, 522, 0), (522, .aload_n 0, 523, 0), (523, .iload_n 3, 524, 0), (524, .iconst 2, 525, 0), (525, .iadd, 526, 0), (526, .iaload, 527, 0), (527, .aload_n 0, 528, 0), (528, .iload_n 3, 529, 0), (529, .iconst 3, 530, 0), (530, .iadd, 531, 0), (531, .iaload, 532, 0), (532, .invokevirtual 66, 535, 0), (535, .aload_n 2, 536, 0), (536, .aload_n 0, 537, 0), (537, .iload_n 3, 538, 0), (538, .iconst 1, 539, 0), (539, .iadd, 540, 0), (540, .iaload, 541, 0), (541, .aload_n 0, 542, 0), (542, .iload_n 3, 543, 0), (543, .iconst 2, 544, 0), (544, .iadd, 545, 0), (545, .iaload, 546, 0), (546, .aload_n 0, 547, 0), (547, .iload_n 3, 548, 0), (548, .iconst 3, 549, 0), (549, .iadd, 550, 0), (550, .iaload, 551, 0), (551, .invokevirtual 69, 554, 0), (554, .if_icmp .eq 536, 557, 1090), (557, .iconst 0, 558, 0), (558, .ireturn, 559, 0), (559, .aload_n 1, 560, 0), (560, .aload_n 0, 561, 0), (561, .iload_n 3, 562, 0), (562, .iconst 1, 563, 0), (563, .iadd, 564, 0), (564, .iaload, 565, 0), (565, .aload_n 0, 566, 0), (566, .iload_n 3, 567, 0), (567, .iconst 2, 568, 0), (568, .iadd, 569, 0), (569, .iaload, 570, 0), (570, .invokevirtual 70, 573, 0), (573, .aload_n 2, 574, 0), (574, .aload_n 0, 575, 0), (575, .iload_n 3, 576, 0), (576, .iconst 1, 577, 0), (577, .iadd, 578, 0), (578, .iaload, 579, 0), (579, .aload_n 0, 580, 0), (580, .iload_n 3, 581, 0), (581, .iconst 2, 582, 0), (582, .iadd, 583, 0), (583, .iaload, 584, 0), (584, .invokevirtual 73, 587, 0), (587, .if_icmp .eq 503, 590, 1090), (590, .iconst 0, 591, 0), (591, .ireturn, 592, 0), (592, .aload_n 1, 593, 0), (593, .aload_n 0, 594, 0), (594, .iload_n 3, 595, 0), (595, .iconst 1, 596, 0), (596, .iadd, 597, 0), (597, .iaload, 598, 0), (598, .aload_n 0, 599, 0), (599, .iload_n 3, 600, 0), (600, .iconst 2, 601, 0), (601, .iadd, 602, 0), (602, .iaload, 603, 0), (603, .aload_n 0, 604, 0), (604, .iload_n 3, 605, 0), (605, .iconst 3, 606, 0), (606, .iadd, 607, 0), (607, .iaload, 608, 0), (608, .aload_n 0, 609, 0), (609, .iload_n 3, 610, 0), (610, .iconst 4, 611, 0), (611, .iadd, 612, 0), (612, .iaload, 613, 0), (613, .invokevirtual 74, 616, 0), (616, .aload_n 2, 617, 0), (617, .aload_n 0, 618, 0), (618, .iload_n 3, 619, 0), (619, .iconst 1, 620, 0), (620, .iadd, 621, 0), (621, .iaload, 622, 0), (622, .aload_n 0, 623, 0), (623, .iload_n 3, 624, 0), (624, .iconst 2, 625, 0), (625, .iadd, 626, 0), (626, .iaload, 627, 0), (627, .aload_n 0, 628, 0), (628, .iload_n 3, 629, 0), (629, .iconst 3, 630, 0), (630, .iadd, 631, 0), (631, .iaload, 632, 0), (632, .aload_n 0, 633, 0), (633, .iload_n 3, 634, 0), (634, .iconst 4, 635, 0), (635, .iadd, 636, 0), (636, .iaload, 637, 0), (637, .invokevirtual 78, 640, 0), (640, .if_icmp .eq 450, 643, 1090), (643, .iconst 0, 644, 0), (644, .ireturn, 645, 0), (645, .aload_n 1, 646, 0), (646, .aload_n 0, 647, 0), (647, .iload_n 3, 648, 0), (648, .iconst 1, 649, 0), (649, .iadd, 650, 0), (650, .iaload, 651, 0), (651, .invokevirtual 79, 654, 0), (654, .aload_n 2, 655, 0), (655, .aload_n 0, 656, 0), (656, .iload_n 3, 657, 0), (657, .iconst 1, 658, 0), (658, .iadd, 659, 0), (659, .iaload, 660, 0), (660, .invokevirtual 82, 663, 0), (663, .if_icmp .eq 427, 666, 1090), (666, .iconst 0, 667, 0), (667, .ireturn, 668, 0), (668, .aload_n 1, 669, 0), (669, .aload_n 0, 670, 0), (670, .iload_n 3, 671, 0), (671, .iconst 1, 672, 0), (672, .iadd, 673, 0), (673, .iaload, 674, 0), (674, .aload_n 0, 675, 0), (675, .iload_n 3, 676, 0), (676, .iconst 2, 677, 0), (677, .iadd, 678, 0), (678, .iaload, 679, 0), (679, .aload_n 0, 680, 0), (680, .iload_n 3, 681, 0), (681, .iconst 3, 682, 0), (682, .iadd, 683, 0), (683, .iaload, 684, 0), (684, .invokevirtual 83, 687, 0), (687, .aload_n 2, 688, 0), (688, .aload_n 0, 689, 0), (689, .iload_n 3, 690, 0), (690, .iconst 1, 691, 0), (691, .iadd, 692, 0), (692, .iaload, 693, 0), (693, .aload_n 0, 694, 0), (694, .iload_n 3, 695, 0), (695, .iconst 2, 696, 0), (696, .iadd, 697, 0), (697, .iaload, 698, 0), (698, .aload_n 0, 699, 0), (699, .iload_n 3, 700, 0), (700, .iconst 3, 701, 0), (701, .iadd, 702, 0), (702, .iaload, 703, 0), (703, .invokevirtual 86, 706, 0), (706, .if_icmp .eq 384, 709, 1090), (709, .iconst 0, 710, 0), (710, .ireturn, 711, 0), (711, .aload_n 1, 712, 0), (712, .aload_n 0, 713, 0), (713, .iload_n 3, 714, 0), (714, .iconst 1, 715, 0), (715, .iadd, 716, 0), (716, .iaload, 717, 0), (717, .invokevirtual 87, 720, 0), (720, .aload_n 2, 721, 0), (721, .aload_n 0, 722, 0), (722, .iload_n 3, 723, 0), (723, .iconst 1, 724, 0), (724, .iadd, 725, 0), (725, .iaload, 726, 0), (726, .invokevirtual 90, 729, 0), (729, .if_icmp .eq 361, 732, 1090), (732, .iconst 0, 733, 0), (733, .ireturn, 734, 0), (734, .aload_n 1, 735, 0), (735, .aload_n 0, 736, 0), (736, .iload_n 3, 737, 0), (737, .iconst 1, 738, 0), (738, .iadd, 739, 0), (739, .iaload, 740, 0), (740, .invokevirtual 91, 743, 0), (743, .aload_n 2, 744, 0), (744, .aload_n 0, 745, 0), (745, .iload_n 3, 746, 0), (746, .iconst 1, 747, 0), (747, .iadd, 748, 0), (748, .iaload, 749, 0), (749, .invokevirtual 94, 752, 0), (752, .if_icmp .eq 338, 755, 1090), (755, .iconst 0, 756, 0), (756, .ireturn, 757, 0), (757, .aload_n 1, 758, 0), (758, .aload_n 0, 759, 0), (759, .iload_n 3, 760, 0), (760, .iconst 1, 761, 0), (761, .iadd, 762, 0), (762, .iaload, 763, 0), (763, .invokevirtual 95, 766, 0), (766, .aload_n 2, 767, 0), (767, .aload_n 0, 768, 0), (768, .iload_n 3, 769, 0), (769, .iconst 1, 770, 0), (770, .iadd, 771, 0), (771, .iaload, 772, 0), (772, .invokevirtual 98, 775, 0), (775, .if_icmp .eq 315, 778, 1090), (778, .iconst 0, 779, 0), (779, .ireturn, 780, 0), (780, .aload_n 1, 781, 0), (781, .aload_n 0, 782, 0), (782, .iload_n 3, 783, 0), (783, .iconst 1, 784, 0), (784, .iadd, 785, 0), (785, .iaload, 786, 0), (786, .invokevirtual 99, 789, 0), (789, .aload_n 2, 790, 0), (790, .aload_n 0, 791, 0), (791, .iload_n 3, 792, 0), (792, .iconst 1, 793, 0), (793, .iadd, 794, 0), (794, .iaload, 795, 0), (795, .invokevirtual 102, 798, 0), (798, .if_icmp .eq 292, 801, 1090), (801, .iconst 0, 802, 0), (802, .ireturn, 803, 0), (803, .aload_n 1, 804, 0), (804, .aload_n 0, 805, 0), (805, .iload_n 3, 806, 0), (806, .iconst 1, 807, 0), (807, .iadd, 808, 0), (808, .iaload, 809, 0), (809, .invokevirtual 103, 812, 0), (812, .aload_n 2, 813, 0), (813, .aload_n 0, 814, 0), (814, .iload_n 3, 815, 0), (815, .iconst 1, 816, 0), (816, .iadd, 817, 0), (817, .iaload, 818, 0), (818, .invokevirtual 106, 821, 0), (821, .if_icmp .eq 269, 824, 1090), (824, .iconst 0, 825, 0), (825, .ireturn, 826, 0), (826, .aload_n 1, 827, 0), (827, .aload_n 0, 828, 0), (828, .iload_n 3, 829, 0), (829, .iconst 1, 830, 0), (830, .iadd, 831, 0), (831, .iaload, 832, 0), (832, .aload_n 0, 833, 0), (833, .iload_n 3, 834, 0), (834, .iconst 2, 835, 0), (835, .iadd, 836, 0), (836, .iaload, 837, 0), (837, .aload_n 0, 838, 0), (838, .iload_n 3, 839, 0), (839, .iconst 3, 840, 0), (840, .iadd, 841, 0), (841, .iaload, 842, 0), (842, .invokevirtual 107, 845, 0), (845, .aload_n 2, 846, 0), (846, .aload_n 0, 847, 0), (847, .iload_n 3, 848, 0), (848, .iconst 1, 849, 0), (849, .iadd, 850, 0), (850, .iaload, 851, 0), (851, .aload_n 0, 852, 0), (852, .iload_n 3, 853, 0), (853, .iconst 2, 854, 0), (854, .iadd, 855, 0), (855, .iaload, 856, 0), (856, .aload_n 0, 857, 0), (857, .iload_n 3, 858, 0), (858, .iconst 3, 859, 0), (859, .iadd, 860, 0), (860, .iaload, 861, 0), (861, .invokevirtual 110, 864, 0), (864, .if_icmp .eq 226, 867, 1090), (867, .iconst 0, 868, 0), (868, .ireturn, 869, 0), (869, .aload_n 1, 870, 0), (870, .aload_n 0, 871, 0), (871, .iload_n 3, 872, 0), (872, .iconst 1, 873, 0), (873, .iadd, 874, 0), (874, .iaload, 875, 0), (875, .aload_n 0, 876, 0), (876, .iload_n 3, 877, 0), (877, .iconst 2, 878, 0), (878, .iadd, 879, 0), (879, .iaload, 880, 0), (880, .aload_n 0, 881, 0), (881, .iload_n 3, 882, 0), (882, .iconst 3, 883, 0), (883, .iadd, 884, 0), (884, .iaload, 885, 0), (885, .invokevirtual 111, 888, 0), (888, .aload_n 2, 889, 0), (889, .aload_n 0, 890, 0), (890, .iload_n 3, 891, 0), (891, .iconst 1, 892, 0), (892, .iadd, 893, 0), (893, .iaload, 894, 0), (894, .aload_n 0, 895, 0), (895, .iload_n 3, 896, 0), (896, .iconst 2, 897, 0), (897, .iadd, 898, 0), (898, .iaload, 899, 0), (899, .aload_n 0, 900, 0), (900, .iload_n 3, 901, 0), (901, .iconst 3, 902, 0), (902, .iadd, 903, 0), (903, .iaload, 904, 0), (904, .invokevirtual 114, 907, 0), (907, .if_icmp .eq 183, 910, 1090), (910, .iconst 0, 911, 0), (911, .ireturn, 912, 0), (912, .aload_n 1, 913, 0), (913, .aload_n 0, 914, 0), (914, .iload_n 3, 915, 0), (915, .iconst 1, 916, 0), (916, .iadd, 917, 0), (917, .iaload, 918, 0), (918, .aload_n 0, 919, 0), (919, .iload_n 3, 920, 0), (920, .iconst 2, 921, 0), (921, .iadd, 922, 0), (922, .iaload, 923, 0), (923, .aload_n 0, 924, 0), (924, .iload_n 3, 925, 0), (925, .iconst 3, 926, 0), (926, .iadd, 927, 0), (927, .iaload, 928, 0), (928, .aload_n 0, 929, 0), (929, .iload_n 3, 930, 0), (930, .iconst 4, 931, 0), (931, .iadd, 932, 0), (932, .iaload, 933, 0), (933, .invokevirtual 115, 936, 0), (936, .aload_n 2, 937, 0), (937, .aload_n 0, 938, 0), (938, .iload_n 3, 939, 0), (939, .iconst 1, 940, 0), (940, .iadd, 941, 0), (941, .iaload, 942, 0), (942, .aload_n 0, 943, 0), (943, .iload_n 3, 944, 0), (944, .iconst 2, 945, 0), (945, .iadd, 946, 0), (946, .iaload, 947, 0), (947, .aload_n 0, 948, 0), (948, .iload_n 3, 949, 0), (949, .iconst 3, 950, 0), (950, .iadd, 951, 0), (951, .iaload, 952, 0), (952, .aload_n 0, 953, 0), (953, .iload_n 3, 954, 0), (954, .iconst 4, 955, 0), (955, .iadd, 956, 0), (956, .iaload, 957, 0), (957, .invokevirtual 118, 960, 0), (960, .if_icmp .eq 130, 963, 1090), (963, .iconst 0, 964, 0), (964, .ireturn, 965, 0), (965, .aload_n 1, 966, 0), (966, .aload_n 0, 967, 0), (967, .iload_n 3, 968, 0), (968, .iconst 1, 969, 0), (969, .iadd, 970, 0), (970, .iaload, 971, 0), (971, .invokevirtual 119, 974, 0), (974, .aload_n 2, 975, 0), (975, .aload_n 0, 976, 0), (976, .iload_n 3, 977, 0), (977, .iconst 1, 978, 0), (978, .iadd, 979, 0), (979, .iaload, 980, 0), (980, .invokevirtual 122, 983, 0), (983, .if_icmp .eq 107, 986, 1090), (986, .iconst 0, 987, 0), (987, .ireturn, 988, 0), (988, .aload_n 1, 989, 0), (989, .aload_n 0, 990, 0), (990, .iload_n 3, 991, 0), (991, .iconst 1, 992, 0), (992, .iadd, 993, 0), (993, .iaload, 994, 0), (994, .aload_n 0, 995, 0), (995, .iload_n 3, 996, 0), (996, .iconst 2, 997, 0), (997, .iadd, 998, 0), (998, .iaload, 999, 0), (999, .invokevirtual 123, 1002, 0), (1002, .aload_n 2, 1003, 0), (1003, .aload_n 0, 1004, 0), (1004, .iload_n 3, 1005, 0), (1005, .iconst 1, 1006, 0), (1006, .iadd, 1007, 0), (1007, .iaload, 1008, 0), (1008, .aload_n 0, 1009, 0), (1009, .iload_n 3, 1010, 0), (1010, .iconst 2, 1011, 0), (1011, .iadd, 1012, 0), (1012, .iaload, 1013, 0), (1013, .invokevirtual 126, 1016, 0), (1016, .if_icmp .eq 74, 1019, 1090), (1019, .iconst 0, 1020, 0), (1020, .ireturn, 1021, 0), (1021, .aload_n 1, 1022, 0), (1022, .aload_n 0, 1023, 0), (1023, .iload_n 3, 1024, 0), (1024, .iconst 1, 1025, 0), (1025, .iadd, 1026, 0), (1026, .iaload, 1027, 0), (1027, .invokevirtual 127, 1030, 0), (1030, .aload_n 2, 1031, 0), (1031, .aload_n 0, 1032, 0), (1032, .iload_n 3, 1033, 0), (1033, .iconst 1, 1034, 0), (1034, .iadd, 1035, 0), (1035, .iaload, 1036, 0), (1036, .invokevirtual 130, 1039, 0), (1039, .if_icmp .eq 51, 1042, 1090), (1042, .iconst 0, 1043, 0), (1043, .ireturn, 1044, 0), (1044, .aload_n 1, 1045, 0), (1045, .aload_n 0, 1046, 0), (1046, .iload_n 3, 1047, 0), (1047, .iconst 1, 1048, 0), (1048, .iadd, 1049, 0), (1049, .iaload, 1050, 0), (1050, .invokevirtual 131, 1053, 0), (1053, .aload_n 2, 1054, 0), (1054, .aload_n 0, 1055, 0), (1055, .iload_n 3, 1056, 0), (1056, .iconst 1, 1057, 0), (1057, .iadd, 1058, 0), (1058, .iaload, 1059, 0), (1059, .invokevirtual 134, 1062, 0), (1062, .if_icmp .eq 28, 1065, 1090), (1065, .iconst 0, 1066, 0), (1066, .ireturn, 1067, 0), (1067, .aload_n 1, 1068, 0), (1068, .aload_n 0, 1069, 0), (1069, .iload_n 3, 1070, 0), (1070, .iconst 1, 1071, 0), (1071, .iadd, 1072, 0), (1072, .iaload, 1073, 0), (1073, .invokevirtual 135, 1076, 0), (1076, .aload_n 2, 1077, 0), (1077, .aload_n 0, 1078, 0), (1078, .iload_n 3, 1079, 0), (1079, .iconst 1, 1080, 0), (1080, .iadd, 1081, 0), (1081, .iaload, 1082, 0), (1082, .invokevirtual 138, 1085, 0), (1085, .if_icmp .eq 5, 1088, 1090), (1088, .iconst 0, 1089, 0), (1089, .ireturn, 1090, 0), (1090, .iinc 3 7, 1093, 0), (1093, .goto (-1075), 1096, 18), (1096, .iconst 1, 1097, 0), (1097, .ireturn, 1098, 0)])
end
section
/-! ===== the law: its instructions ===== -/
theorem wb_chunk {α : Type} {P : α → Prop} {l : List α} {k j : Nat} (hj : j = k + 40) (h0 : ∀ q ∈ (l.drop k).take 40, P q) (h1 : ∀ q ∈ l.drop j, P q) : ∀ q ∈ l.drop k, P q := by
  intro q hq
  rw [← List.take_append_drop 40 (l.drop k)] at hq
  rcases List.mem_append.mp hq with h | h
  · exact h0 q h
  · rw [List.drop_drop] at h
    rw [hj] at h1
    exact h1 q (by first | exact h | (rw [Nat.add_comm]; exact h))
set_option maxRecDepth 40000 in
theorem od_L_0 : ∀ q ∈ ((wb_op M_L_law).drop 0).take 40, decode (wb_by M_L_law) q.1 = .ok (q.2.1, q.2.2.1 - q.1) := by decide +kernel
set_option maxRecDepth 40000 in
theorem od_L_40 : ∀ q ∈ ((wb_op M_L_law).drop 40).take 40, decode (wb_by M_L_law) q.1 = .ok (q.2.1, q.2.2.1 - q.1) := by decide +kernel
set_option maxRecDepth 40000 in
theorem od_L_80 : ∀ q ∈ ((wb_op M_L_law).drop 80).take 40, decode (wb_by M_L_law) q.1 = .ok (q.2.1, q.2.2.1 - q.1) := by decide +kernel
set_option maxRecDepth 40000 in
theorem od_L_120 : ∀ q ∈ ((wb_op M_L_law).drop 120).take 40, decode (wb_by M_L_law) q.1 = .ok (q.2.1, q.2.2.1 - q.1) := by decide +kernel
set_option maxRecDepth 40000 in
theorem od_L_160 : ∀ q ∈ ((wb_op M_L_law).drop 160).take 40, decode (wb_by M_L_law) q.1 = .ok (q.2.1, q.2.2.1 - q.1) := by decide +kernel
set_option maxRecDepth 40000 in
theorem od_L_200 : ∀ q ∈ ((wb_op M_L_law).drop 200).take 40, decode (wb_by M_L_law) q.1 = .ok (q.2.1, q.2.2.1 - q.1) := by decide +kernel
set_option maxRecDepth 40000 in
theorem od_L_240 : ∀ q ∈ ((wb_op M_L_law).drop 240).take 40, decode (wb_by M_L_law) q.1 = .ok (q.2.1, q.2.2.1 - q.1) := by decide +kernel
set_option maxRecDepth 40000 in
theorem od_L_280 : ∀ q ∈ ((wb_op M_L_law).drop 280).take 40, decode (wb_by M_L_law) q.1 = .ok (q.2.1, q.2.2.1 - q.1) := by decide +kernel
set_option maxRecDepth 40000 in
theorem od_L_320 : ∀ q ∈ ((wb_op M_L_law).drop 320).take 40, decode (wb_by M_L_law) q.1 = .ok (q.2.1, q.2.2.1 - q.1) := by decide +kernel
set_option maxRecDepth 40000 in
theorem od_L_360 : ∀ q ∈ ((wb_op M_L_law).drop 360).take 40, decode (wb_by M_L_law) q.1 = .ok (q.2.1, q.2.2.1 - q.1) := by decide +kernel
set_option maxRecDepth 40000 in
theorem od_L_400 : ∀ q ∈ ((wb_op M_L_law).drop 400).take 40, decode (wb_by M_L_law) q.1 = .ok (q.2.1, q.2.2.1 - q.1) := by decide +kernel
set_option maxRecDepth 40000 in
theorem od_L_440 : ∀ q ∈ ((wb_op M_L_law).drop 440).take 40, decode (wb_by M_L_law) q.1 = .ok (q.2.1, q.2.2.1 - q.1) := by decide +kernel
set_option maxRecDepth 40000 in
theorem od_L_480 : ∀ q ∈ ((wb_op M_L_law).drop 480).take 40, decode (wb_by M_L_law) q.1 = .ok (q.2.1, q.2.2.1 - q.1) := by decide +kernel
set_option maxRecDepth 40000 in
theorem od_L_520 : ∀ q ∈ ((wb_op M_L_law).drop 520).take 40, decode (wb_by M_L_law) q.1 = .ok (q.2.1, q.2.2.1 - q.1) := by decide +kernel
set_option maxRecDepth 40000 in
theorem od_L_560 : ∀ q ∈ ((wb_op M_L_law).drop 560).take 40, decode (wb_by M_L_law) q.1 = .ok (q.2.1, q.2.2.1 - q.1) := by decide +kernel
set_option maxRecDepth 40000 in
theorem od_L_600 : ∀ q ∈ ((wb_op M_L_law).drop 600).take 40, decode (wb_by M_L_law) q.1 = .ok (q.2.1, q.2.2.1 - q.1) := by decide +kernel
set_option maxRecDepth 40000 in
theorem od_L_640 : ∀ q ∈ ((wb_op M_L_law).drop 640).take 40, decode (wb_by M_L_law) q.1 = .ok (q.2.1, q.2.2.1 - q.1) := by decide +kernel
set_option maxRecDepth 40000 in
theorem od_L_680 : ∀ q ∈ ((wb_op M_L_law).drop 680).take 40, decode (wb_by M_L_law) q.1 = .ok (q.2.1, q.2.2.1 - q.1) := by decide +kernel
set_option maxRecDepth 40000 in
theorem od_L_720 : ∀ q ∈ ((wb_op M_L_law).drop 720).take 40, decode (wb_by M_L_law) q.1 = .ok (q.2.1, q.2.2.1 - q.1) := by decide +kernel
set_option maxRecDepth 40000 in
theorem od_L_760 : ∀ q ∈ ((wb_op M_L_law).drop 760).take 40, decode (wb_by M_L_law) q.1 = .ok (q.2.1, q.2.2.1 - q.1) := by decide +kernel
set_option maxRecDepth 40000 in
theorem od_L_end : ∀ q ∈ (wb_op M_L_law).drop 800, decode (wb_by M_L_law) q.1 = .ok (q.2.1, q.2.2.1 - q.1) := by decide +kernel
set_option maxRecDepth 40000 in
theorem od_L_sh : ∀ q ∈ wb_op M_L_law, wb_sh q = true := by decide +kernel
theorem od_L_law : wb_OD M_L_law := ⟨(wb_chunk (j := 40) rfl od_L_0 (wb_chunk (j := 80) rfl od_L_40 (wb_chunk (j := 120) rfl od_L_80 (wb_chunk (j := 160) rfl od_L_120 (wb_chunk (j := 200) rfl od_L_160 (wb_chunk (j := 240) rfl od_L_200 (wb_chunk (j := 280) rfl od_L_240 (wb_chunk (j := 320) rfl od_L_280 (wb_chunk (j := 360) rfl od_L_320 (wb_chunk (j := 400) rfl od_L_360 (wb_chunk (j := 440) rfl od_L_400 (wb_chunk (j := 480) rfl od_L_440 (wb_chunk (j := 520) rfl od_L_480 (wb_chunk (j := 560) rfl od_L_520 (wb_chunk (j := 600) rfl od_L_560 (wb_chunk (j := 640) rfl od_L_600 (wb_chunk (j := 680) rfl od_L_640 (wb_chunk (j := 720) rfl od_L_680 (wb_chunk (j := 760) rfl od_L_720 (wb_chunk (j := 800) rfl od_L_760 od_L_end)))))))))))))))))))), od_L_sh⟩
end
