section
-- ===== PART A: goes FIRST, ahead of the names: the tables' words, and 'selects' of the private methods out of them =====
/-- a private method of a class that the tables say can be made, by its rows of tables_1 -/
def lw_okq (q : MethodName × Nat) : Prop := (q.1.cls ≠ "java/lang/invoke/MethodHandle" ∧ q.1.cls ≠ "java/lang/invoke/VarHandle") ∧ Cond.instantiable q.1.cls q.2 ∈ tables_1 ∧ Cond.privateMethod q.1 ∈ tables_1 ∧ Cond.instanceMethod q.1 ∈ tables_1
theorem lw_p0 : lw_okq (⟨"GravediggerPaid", "refuse", "(I)I"⟩, 10) := ⟨⟨by decide +kernel, by decide +kernel⟩, List.mem_of_getElem? (i := 12) (by decide +kernel), List.mem_of_getElem? (i := 150) (by decide +kernel), List.mem_of_getElem? (i := 151) (by decide +kernel)⟩
theorem lw_p1 : lw_okq (⟨"GravediggerPaid$Letters", "firstMisfit", "()I"⟩, 2) := ⟨⟨by decide +kernel, by decide +kernel⟩, List.mem_of_getElem? (i := 83) (by decide +kernel), List.mem_of_getElem? (i := 175) (by decide +kernel), List.mem_of_getElem? (i := 176) (by decide +kernel)⟩
theorem lw_p2 : lw_okq (⟨"GravediggerPaid$Letters", "signAt", "(I)I"⟩, 2) := ⟨⟨by decide +kernel, by decide +kernel⟩, List.mem_of_getElem? (i := 83) (by decide +kernel), List.mem_of_getElem? (i := 179) (by decide +kernel), List.mem_of_getElem? (i := 180) (by decide +kernel)⟩
theorem lw_p3 : lw_okq (⟨"GravediggerPaid$Letters", "fitsInside", "(III)Z"⟩, 2) := ⟨⟨by decide +kernel, by decide +kernel⟩, List.mem_of_getElem? (i := 83) (by decide +kernel), List.mem_of_getElem? (i := 186) (by decide +kernel), List.mem_of_getElem? (i := 187) (by decide +kernel)⟩
theorem lw_p4 : lw_okq (⟨"GravediggerPaid$Letters", "statementComes", "(LGravediggerPaid$Churchyard;I)Z"⟩, 2) := ⟨⟨by decide +kernel, by decide +kernel⟩, List.mem_of_getElem? (i := 83) (by decide +kernel), List.mem_of_getElem? (i := 196) (by decide +kernel), List.mem_of_getElem? (i := 197) (by decide +kernel)⟩
theorem lw_p5 : lw_okq (⟨"GravediggerPaid$Letters", "digitAt", "(I)I"⟩, 2) := ⟨⟨by decide +kernel, by decide +kernel⟩, List.mem_of_getElem? (i := 83) (by decide +kernel), List.mem_of_getElem? (i := 200) (by decide +kernel), List.mem_of_getElem? (i := 201) (by decide +kernel)⟩
theorem lw_p6 : lw_okq (⟨"GravediggerPaid$Letters", "twoDigitsAt", "(I)I"⟩, 2) := ⟨⟨by decide +kernel, by decide +kernel⟩, List.mem_of_getElem? (i := 83) (by decide +kernel), List.mem_of_getElem? (i := 211) (by decide +kernel), List.mem_of_getElem? (i := 212) (by decide +kernel)⟩
theorem lw_p7 : lw_okq (⟨"GravediggerPaid$Thought", "graveFootDeeperInMind", "()I"⟩, 4) := ⟨⟨by decide +kernel, by decide +kernel⟩, List.mem_of_getElem? (i := 62) (by decide +kernel), List.mem_of_getElem? (i := 446) (by decide +kernel), List.mem_of_getElem? (i := 447) (by decide +kernel)⟩
theorem lw_p8 : lw_okq (⟨"GravediggerPaid$Seating", "measureSets", "(LGravediggerPaid$Churchyard;I)V"⟩, 4) := ⟨⟨by decide +kernel, by decide +kernel⟩, List.mem_of_getElem? (i := 96) (by decide +kernel), List.mem_of_getElem? (i := 486) (by decide +kernel), List.mem_of_getElem? (i := 487) (by decide +kernel)⟩
theorem lw_p9 : lw_okq (⟨"GravediggerPaid$Seating", "bestWith", "(LGravediggerPaid$Churchyard;II)I"⟩, 4) := ⟨⟨by decide +kernel, by decide +kernel⟩, List.mem_of_getElem? (i := 96) (by decide +kernel), List.mem_of_getElem? (i := 495) (by decide +kernel), List.mem_of_getElem? (i := 496) (by decide +kernel)⟩
theorem lw_p10 : lw_okq (⟨"GravediggerPaid$Thought", "depthBy", "(III)I"⟩, 4) := ⟨⟨by decide +kernel, by decide +kernel⟩, List.mem_of_getElem? (i := 62) (by decide +kernel), List.mem_of_getElem? (i := 529) (by decide +kernel), List.mem_of_getElem? (i := 530) (by decide +kernel)⟩
theorem lw_p11 : lw_okq (⟨"GravediggerPaid$Thought", "gain", "(IZIZI)I"⟩, 4) := ⟨⟨by decide +kernel, by decide +kernel⟩, List.mem_of_getElem? (i := 62) (by decide +kernel), List.mem_of_getElem? (i := 621) (by decide +kernel), List.mem_of_getElem? (i := 622) (by decide +kernel)⟩
theorem lw_p12 : lw_okq (⟨"GravediggerPaid$Thought", "inchesOnDays", "(III)I"⟩, 4) := ⟨⟨by decide +kernel, by decide +kernel⟩, List.mem_of_getElem? (i := 62) (by decide +kernel), List.mem_of_getElem? (i := 649) (by decide +kernel), List.mem_of_getElem? (i := 650) (by decide +kernel)⟩
theorem lw_p13 : lw_okq (⟨"GravediggerPaid$Thought", "fitsRow", "(I[II)Z"⟩, 4) := ⟨⟨by decide +kernel, by decide +kernel⟩, List.mem_of_getElem? (i := 62) (by decide +kernel), List.mem_of_getElem? (i := 673) (by decide +kernel), List.mem_of_getElem? (i := 674) (by decide +kernel)⟩
theorem lw_p14 : lw_okq (⟨"GravediggerPaid", "firstUntrueGrief", "()I"⟩, 10) := ⟨⟨by decide +kernel, by decide +kernel⟩, List.mem_of_getElem? (i := 12) (by decide +kernel), List.mem_of_getElem? (i := 698) (by decide +kernel), List.mem_of_getElem? (i := 699) (by decide +kernel)⟩
theorem lw_p15 : lw_okq (⟨"GravediggerPaid$Thought", "drawChurchyard", "()V"⟩, 4) := ⟨⟨by decide +kernel, by decide +kernel⟩, List.mem_of_getElem? (i := 62) (by decide +kernel), List.mem_of_getElem? (i := 714) (by decide +kernel), List.mem_of_getElem? (i := 715) (by decide +kernel)⟩
def lw_privs_1 : List (MethodName × Nat) := [(⟨"GravediggerPaid", "refuse", "(I)I"⟩, 10), (⟨"GravediggerPaid$Letters", "firstMisfit", "()I"⟩, 2), (⟨"GravediggerPaid$Letters", "signAt", "(I)I"⟩, 2), (⟨"GravediggerPaid$Letters", "fitsInside", "(III)Z"⟩, 2), (⟨"GravediggerPaid$Letters", "statementComes", "(LGravediggerPaid$Churchyard;I)Z"⟩, 2), (⟨"GravediggerPaid$Letters", "digitAt", "(I)I"⟩, 2), (⟨"GravediggerPaid$Letters", "twoDigitsAt", "(I)I"⟩, 2), (⟨"GravediggerPaid$Thought", "graveFootDeeperInMind", "()I"⟩, 4), (⟨"GravediggerPaid$Seating", "measureSets", "(LGravediggerPaid$Churchyard;I)V"⟩, 4), (⟨"GravediggerPaid$Seating", "bestWith", "(LGravediggerPaid$Churchyard;II)I"⟩, 4), (⟨"GravediggerPaid$Thought", "depthBy", "(III)I"⟩, 4), (⟨"GravediggerPaid$Thought", "gain", "(IZIZI)I"⟩, 4), (⟨"GravediggerPaid$Thought", "inchesOnDays", "(III)I"⟩, 4), (⟨"GravediggerPaid$Thought", "fitsRow", "(I[II)Z"⟩, 4), (⟨"GravediggerPaid", "firstUntrueGrief", "()I"⟩, 10), (⟨"GravediggerPaid$Thought", "drawChurchyard", "()V"⟩, 4)]
theorem lw_r1 : ∀ q ∈ lw_privs_1, lw_okq q := List.forall_mem_cons.mpr ⟨lw_p0, List.forall_mem_cons.mpr ⟨lw_p1, List.forall_mem_cons.mpr ⟨lw_p2, List.forall_mem_cons.mpr ⟨lw_p3, List.forall_mem_cons.mpr ⟨lw_p4, List.forall_mem_cons.mpr ⟨lw_p5, List.forall_mem_cons.mpr ⟨lw_p6, List.forall_mem_cons.mpr ⟨lw_p7, List.forall_mem_cons.mpr ⟨lw_p8, List.forall_mem_cons.mpr ⟨lw_p9, List.forall_mem_cons.mpr ⟨lw_p10, List.forall_mem_cons.mpr ⟨lw_p11, List.forall_mem_cons.mpr ⟨lw_p12, List.forall_mem_cons.mpr ⟨lw_p13, List.forall_mem_cons.mpr ⟨lw_p14, List.forall_mem_cons.mpr ⟨lw_p15, fun _ h => absurd h List.not_mem_nil⟩⟩⟩⟩⟩⟩⟩⟩⟩⟩⟩⟩⟩⟩⟩⟩
theorem lw_p16 : lw_okq (⟨"GravediggerPaid$Thought", "drawBelow", "(I)I"⟩, 4) := ⟨⟨by decide +kernel, by decide +kernel⟩, List.mem_of_getElem? (i := 62) (by decide +kernel), List.mem_of_getElem? (i := 718) (by decide +kernel), List.mem_of_getElem? (i := 719) (by decide +kernel)⟩
theorem lw_p17 : lw_okq (⟨"GravediggerPaidModel", "no", "(I)I"⟩, 17) := ⟨⟨by decide +kernel, by decide +kernel⟩, List.mem_of_getElem? (i := 752) (by decide +kernel), List.mem_of_getElem? (i := 814) (by decide +kernel), List.mem_of_getElem? (i := 815) (by decide +kernel)⟩
theorem lw_p18 : lw_okq (⟨"GravediggerPaidModel", "readsStatement", "()Z"⟩, 17) := ⟨⟨by decide +kernel, by decide +kernel⟩, List.mem_of_getElem? (i := 752) (by decide +kernel), List.mem_of_getElem? (i := 822) (by decide +kernel), List.mem_of_getElem? (i := 823) (by decide +kernel)⟩
theorem lw_p19 : lw_okq (⟨"GravediggerPaidModel", "here", "()I"⟩, 17) := ⟨⟨by decide +kernel, by decide +kernel⟩, List.mem_of_getElem? (i := 752) (by decide +kernel), List.mem_of_getElem? (i := 826) (by decide +kernel), List.mem_of_getElem? (i := 827) (by decide +kernel)⟩
theorem lw_p20 : lw_okq (⟨"GravediggerPaidModel", "readsNumber", "(II)Z"⟩, 17) := ⟨⟨by decide +kernel, by decide +kernel⟩, List.mem_of_getElem? (i := 752) (by decide +kernel), List.mem_of_getElem? (i := 830) (by decide +kernel), List.mem_of_getElem? (i := 831) (by decide +kernel)⟩
theorem lw_p21 : lw_okq (⟨"GravediggerPaidModel", "readsKind", "()Z"⟩, 17) := ⟨⟨by decide +kernel, by decide +kernel⟩, List.mem_of_getElem? (i := 752) (by decide +kernel), List.mem_of_getElem? (i := 837) (by decide +kernel), List.mem_of_getElem? (i := 838) (by decide +kernel)⟩
theorem lw_p22 : lw_okq (⟨"GravediggerPaidModel", "isDone", "(I)Z"⟩, 17) := ⟨⟨by decide +kernel, by decide +kernel⟩, List.mem_of_getElem? (i := 752) (by decide +kernel), List.mem_of_getElem? (i := 847) (by decide +kernel), List.mem_of_getElem? (i := 848) (by decide +kernel)⟩
theorem lw_p23 : lw_okq (⟨"GravediggerPaidModel", "isMourner", "(I)Z"⟩, 17) := ⟨⟨by decide +kernel, by decide +kernel⟩, List.mem_of_getElem? (i := 752) (by decide +kernel), List.mem_of_getElem? (i := 857) (by decide +kernel), List.mem_of_getElem? (i := 858) (by decide +kernel)⟩
theorem lw_p24 : lw_okq (⟨"GravediggerPaidModel", "isGrave", "(I)Z"⟩, 17) := ⟨⟨by decide +kernel, by decide +kernel⟩, List.mem_of_getElem? (i := 752) (by decide +kernel), List.mem_of_getElem? (i := 861) (by decide +kernel), List.mem_of_getElem? (i := 862) (by decide +kernel)⟩
theorem lw_p25 : lw_okq (⟨"GravediggerPaidModel", "weepingAt", "(I)I"⟩, 17) := ⟨⟨by decide +kernel, by decide +kernel⟩, List.mem_of_getElem? (i := 752) (by decide +kernel), List.mem_of_getElem? (i := 893) (by decide +kernel), List.mem_of_getElem? (i := 894) (by decide +kernel)⟩
theorem lw_p26 : lw_okq (⟨"GravediggerPaidModel", "daysTo", "(I)I"⟩, 17) := ⟨⟨by decide +kernel, by decide +kernel⟩, List.mem_of_getElem? (i := 752) (by decide +kernel), List.mem_of_getElem? (i := 897) (by decide +kernel), List.mem_of_getElem? (i := 898) (by decide +kernel)⟩
theorem lw_p27 : lw_okq (⟨"GravediggerPaidModel", "peopleAt", "(I)I"⟩, 17) := ⟨⟨by decide +kernel, by decide +kernel⟩, List.mem_of_getElem? (i := 752) (by decide +kernel), List.mem_of_getElem? (i := 901) (by decide +kernel), List.mem_of_getElem? (i := 902) (by decide +kernel)⟩
theorem lw_p28 : lw_okq (⟨"GravediggerPaidModel", "takes", "(I)V"⟩, 17) := ⟨⟨by decide +kernel, by decide +kernel⟩, List.mem_of_getElem? (i := 752) (by decide +kernel), List.mem_of_getElem? (i := 947) (by decide +kernel), List.mem_of_getElem? (i := 948) (by decide +kernel)⟩
theorem lw_p29 : lw_okq (⟨"GravediggerPaidModel", "firstFoot", "(I)I"⟩, 17) := ⟨⟨by decide +kernel, by decide +kernel⟩, List.mem_of_getElem? (i := 752) (by decide +kernel), List.mem_of_getElem? (i := 967) (by decide +kernel), List.mem_of_getElem? (i := 968) (by decide +kernel)⟩
theorem lw_p30 : lw_okq (⟨"GravediggerPaidModel", "dry", "()I"⟩, 17) := ⟨⟨by decide +kernel, by decide +kernel⟩, List.mem_of_getElem? (i := 752) (by decide +kernel), List.mem_of_getElem? (i := 971) (by decide +kernel), List.mem_of_getElem? (i := 972) (by decide +kernel)⟩
theorem lw_p31 : lw_okq (⟨"GravediggerPaidModel", "extreme", "(I)I"⟩, 17) := ⟨⟨by decide +kernel, by decide +kernel⟩, List.mem_of_getElem? (i := 752) (by decide +kernel), List.mem_of_getElem? (i := 975) (by decide +kernel), List.mem_of_getElem? (i := 976) (by decide +kernel)⟩
def lw_privs_2 : List (MethodName × Nat) := [(⟨"GravediggerPaid$Thought", "drawBelow", "(I)I"⟩, 4), (⟨"GravediggerPaidModel", "no", "(I)I"⟩, 17), (⟨"GravediggerPaidModel", "readsStatement", "()Z"⟩, 17), (⟨"GravediggerPaidModel", "here", "()I"⟩, 17), (⟨"GravediggerPaidModel", "readsNumber", "(II)Z"⟩, 17), (⟨"GravediggerPaidModel", "readsKind", "()Z"⟩, 17), (⟨"GravediggerPaidModel", "isDone", "(I)Z"⟩, 17), (⟨"GravediggerPaidModel", "isMourner", "(I)Z"⟩, 17), (⟨"GravediggerPaidModel", "isGrave", "(I)Z"⟩, 17), (⟨"GravediggerPaidModel", "weepingAt", "(I)I"⟩, 17), (⟨"GravediggerPaidModel", "daysTo", "(I)I"⟩, 17), (⟨"GravediggerPaidModel", "peopleAt", "(I)I"⟩, 17), (⟨"GravediggerPaidModel", "takes", "(I)V"⟩, 17), (⟨"GravediggerPaidModel", "firstFoot", "(I)I"⟩, 17), (⟨"GravediggerPaidModel", "dry", "()I"⟩, 17), (⟨"GravediggerPaidModel", "extreme", "(I)I"⟩, 17)]
theorem lw_r2 : ∀ q ∈ lw_privs_2, lw_okq q := List.forall_mem_cons.mpr ⟨lw_p16, List.forall_mem_cons.mpr ⟨lw_p17, List.forall_mem_cons.mpr ⟨lw_p18, List.forall_mem_cons.mpr ⟨lw_p19, List.forall_mem_cons.mpr ⟨lw_p20, List.forall_mem_cons.mpr ⟨lw_p21, List.forall_mem_cons.mpr ⟨lw_p22, List.forall_mem_cons.mpr ⟨lw_p23, List.forall_mem_cons.mpr ⟨lw_p24, List.forall_mem_cons.mpr ⟨lw_p25, List.forall_mem_cons.mpr ⟨lw_p26, List.forall_mem_cons.mpr ⟨lw_p27, List.forall_mem_cons.mpr ⟨lw_p28, List.forall_mem_cons.mpr ⟨lw_p29, List.forall_mem_cons.mpr ⟨lw_p30, List.forall_mem_cons.mpr ⟨lw_p31, fun _ h => absurd h List.not_mem_nil⟩⟩⟩⟩⟩⟩⟩⟩⟩⟩⟩⟩⟩⟩⟩⟩
theorem lw_p32 : lw_okq (⟨"GravediggerPaidModel", "seats", "(I)V"⟩, 17) := ⟨⟨by decide +kernel, by decide +kernel⟩, List.mem_of_getElem? (i := 752) (by decide +kernel), List.mem_of_getElem? (i := 983) (by decide +kernel), List.mem_of_getElem? (i := 984) (by decide +kernel)⟩
theorem lw_p33 : lw_okq (⟨"GravediggerPaidModel", "inchesGiven", "()I"⟩, 17) := ⟨⟨by decide +kernel, by decide +kernel⟩, List.mem_of_getElem? (i := 752) (by decide +kernel), List.mem_of_getElem? (i := 987) (by decide +kernel), List.mem_of_getElem? (i := 988) (by decide +kernel)⟩
theorem lw_p34 : lw_okq (⟨"GravediggerPaidModel", "setsAlone", "(II)V"⟩, 17) := ⟨⟨by decide +kernel, by decide +kernel⟩, List.mem_of_getElem? (i := 752) (by decide +kernel), List.mem_of_getElem? (i := 998) (by decide +kernel), List.mem_of_getElem? (i := 999) (by decide +kernel)⟩
theorem lw_p35 : lw_okq (⟨"GravediggerPaidModel", "inchesNow", "(I)I"⟩, 17) := ⟨⟨by decide +kernel, by decide +kernel⟩, List.mem_of_getElem? (i := 752) (by decide +kernel), List.mem_of_getElem? (i := 1009) (by decide +kernel), List.mem_of_getElem? (i := 1010) (by decide +kernel)⟩
theorem lw_p36 : lw_okq (⟨"GravediggerPaidModel", "payNow", "(I)I"⟩, 17) := ⟨⟨by decide +kernel, by decide +kernel⟩, List.mem_of_getElem? (i := 752) (by decide +kernel), List.mem_of_getElem? (i := 1025) (by decide +kernel), List.mem_of_getElem? (i := 1026) (by decide +kernel)⟩
theorem lw_p37 : lw_okq (⟨"GravediggerPaidModel", "noFar", "(I)I"⟩, 17) := ⟨⟨by decide +kernel, by decide +kernel⟩, List.mem_of_getElem? (i := 752) (by decide +kernel), List.mem_of_getElem? (i := 1037) (by decide +kernel), List.mem_of_getElem? (i := 1038) (by decide +kernel)⟩
theorem lw_p38 : lw_okq (⟨"GravediggerPaidModel", "ownBy", "(IIIIII)I"⟩, 17) := ⟨⟨by decide +kernel, by decide +kernel⟩, List.mem_of_getElem? (i := 752) (by decide +kernel), List.mem_of_getElem? (i := 1057) (by decide +kernel), List.mem_of_getElem? (i := 1058) (by decide +kernel)⟩
theorem lw_p39 : lw_okq (⟨"GravediggerPaidModel", "noWide", "(I)J"⟩, 17) := ⟨⟨by decide +kernel, by decide +kernel⟩, List.mem_of_getElem? (i := 752) (by decide +kernel), List.mem_of_getElem? (i := 1065) (by decide +kernel), List.mem_of_getElem? (i := 1066) (by decide +kernel)⟩
theorem lw_p40 : lw_okq (⟨"GravediggerPaidModel", "isDeepSo", "(I)Z"⟩, 17) := ⟨⟨by decide +kernel, by decide +kernel⟩, List.mem_of_getElem? (i := 752) (by decide +kernel), List.mem_of_getElem? (i := 1088) (by decide +kernel), List.mem_of_getElem? (i := 1089) (by decide +kernel)⟩
theorem lw_p41 : lw_okq (⟨"GravediggerPaidModel", "drawn", "(I)I"⟩, 17) := ⟨⟨by decide +kernel, by decide +kernel⟩, List.mem_of_getElem? (i := 752) (by decide +kernel), List.mem_of_getElem? (i := 1112) (by decide +kernel), List.mem_of_getElem? (i := 1113) (by decide +kernel)⟩
def lw_privs_3 : List (MethodName × Nat) := [(⟨"GravediggerPaidModel", "seats", "(I)V"⟩, 17), (⟨"GravediggerPaidModel", "inchesGiven", "()I"⟩, 17), (⟨"GravediggerPaidModel", "setsAlone", "(II)V"⟩, 17), (⟨"GravediggerPaidModel", "inchesNow", "(I)I"⟩, 17), (⟨"GravediggerPaidModel", "payNow", "(I)I"⟩, 17), (⟨"GravediggerPaidModel", "noFar", "(I)I"⟩, 17), (⟨"GravediggerPaidModel", "ownBy", "(IIIIII)I"⟩, 17), (⟨"GravediggerPaidModel", "noWide", "(I)J"⟩, 17), (⟨"GravediggerPaidModel", "isDeepSo", "(I)Z"⟩, 17), (⟨"GravediggerPaidModel", "drawn", "(I)I"⟩, 17)]
theorem lw_r3 : ∀ q ∈ lw_privs_3, lw_okq q := List.forall_mem_cons.mpr ⟨lw_p32, List.forall_mem_cons.mpr ⟨lw_p33, List.forall_mem_cons.mpr ⟨lw_p34, List.forall_mem_cons.mpr ⟨lw_p35, List.forall_mem_cons.mpr ⟨lw_p36, List.forall_mem_cons.mpr ⟨lw_p37, List.forall_mem_cons.mpr ⟨lw_p38, List.forall_mem_cons.mpr ⟨lw_p39, List.forall_mem_cons.mpr ⟨lw_p40, List.forall_mem_cons.mpr ⟨lw_p41, fun _ h => absurd h List.not_mem_nil⟩⟩⟩⟩⟩⟩⟩⟩⟩⟩
def lw_privs : List (MethodName × Nat) := lw_privs_1 ++ (lw_privs_2 ++ (lw_privs_3))
def lw_tbl : List Cond := k2_sels lw_privs ++ tables_1
theorem lw_privs_ok : ∀ q ∈ lw_privs, lw_okq q := by
  show ∀ q ∈ lw_privs_1 ++ (lw_privs_2 ++ (lw_privs_3)), lw_okq q
  exact List.forall_mem_append.mpr ⟨lw_r1, List.forall_mem_append.mpr ⟨lw_r2, lw_r3⟩⟩
end
section
def RX0 : String := "GravediggerPaid$Churchyard"
def TX0 : u_T := fun k => match k with
  | 0 => ("GravediggerPaid$Churchyard", "hard", "[I", true)
  | 1 => ("GravediggerPaid$Churchyard", "inches", "[I", true)
  | 2 => ("GravediggerPaid$Churchyard", "wet", "[I", true)
  | 3 => ("GravediggerPaid$Churchyard", "kinds", "[I", true)
  | 4 => ("GravediggerPaid$Churchyard", "figures", "[I", true)
  | 5 => ("GravediggerPaid$Churchyard", "griefs", "[I", true)
  | 6 => ("GravediggerPaid$Churchyard", "places", "[I", true)
  | 7 => ("GravediggerPaid$Churchyard", "graves", "I", false)
  | 8 => ("GravediggerPaid$Churchyard", "mourners", "I", false)
  | _ => ("GravediggerPaid$Churchyard", "day", "I", false)
def tyX0 : Nat → FieldType := fun k => match k with
  | 0 => .array .int
  | 1 => .array .int
  | 2 => .array .int
  | 3 => .array .int
  | 4 => .array .int
  | 5 => .array .int
  | 6 => .array .int
  | 7 => .int
  | 8 => .int
  | _ => .int
abbrev wsX00 : List Cond := u_ws RX0 TX0 10
theorem nmX0 : ∀ a, a < 10 → ∀ b, b < 10 → a ≠ b → (TX0 a).2.1 ≠ (TX0 b).2.1 := by decide +kernel
theorem tyX0_ok : ∀ k, k < 10 → parseFieldDescriptor (TX0 k).2.2.1 = some (tyX0 k) := by decide +kernel
abbrev cX0_init : ByteArray := prog_2_method_1_code
def yX0_init : MethodName := ⟨RX0, "<init>", "()V"⟩
abbrev cX0_become : ByteArray := prog_2_method_2_code
def yX0_become : MethodName := ⟨RX0, "become", "(LGravediggerPaid$Churchyard;)V"⟩
abbrev cX0_graveCount : ByteArray := prog_2_method_3_code
def yX0_graveCount : MethodName := ⟨RX0, "graveCount", "()I"⟩
abbrev cX0_mournerCount : ByteArray := prog_2_method_4_code
def yX0_mournerCount : MethodName := ⟨RX0, "mournerCount", "()I"⟩
abbrev cX0_today : ByteArray := prog_2_method_5_code
def yX0_today : MethodName := ⟨RX0, "today", "()I"⟩
abbrev cX0_hasGrave : ByteArray := prog_2_method_6_code
def yX0_hasGrave : MethodName := ⟨RX0, "hasGrave", "(I)Z"⟩
abbrev cX0_hasMourner : ByteArray := prog_2_method_7_code
def yX0_hasMourner : MethodName := ⟨RX0, "hasMourner", "(I)Z"⟩
abbrev cX0_addGrave : ByteArray := prog_2_method_8_code
def yX0_addGrave : MethodName := ⟨RX0, "addGrave", "(I)Z"⟩
abbrev cX0_addMourner : ByteArray := prog_2_method_9_code
def yX0_addMourner : MethodName := ⟨RX0, "addMourner", "(III)Z"⟩
abbrev cX0_hardness : ByteArray := prog_2_method_10_code
def yX0_hardness : MethodName := ⟨RX0, "hardness", "(I)I"⟩
abbrev cX0_depth : ByteArray := prog_2_method_11_code
def yX0_depth : MethodName := ⟨RX0, "depth", "(I)I"⟩
abbrev cX0_wetness : ByteArray := prog_2_method_12_code
def yX0_wetness : MethodName := ⟨RX0, "wetness", "(I)I"⟩
abbrev cX0_setHardness : ByteArray := prog_2_method_13_code
def yX0_setHardness : MethodName := ⟨RX0, "setHardness", "(II)V"⟩
abbrev cX0_kindOf : ByteArray := prog_2_method_14_code
def yX0_kindOf : MethodName := ⟨RX0, "kindOf", "(I)I"⟩
abbrev cX0_figureOf : ByteArray := prog_2_method_15_code
def yX0_figureOf : MethodName := ⟨RX0, "figureOf", "(I)I"⟩
abbrev cX0_griefOf : ByteArray := prog_2_method_16_code
def yX0_griefOf : MethodName := ⟨RX0, "griefOf", "(I)I"⟩
abbrev cX0_placeOf : ByteArray := prog_2_method_17_code
def yX0_placeOf : MethodName := ⟨RX0, "placeOf", "(I)I"⟩
abbrev cX0_setKind : ByteArray := prog_2_method_18_code
def yX0_setKind : MethodName := ⟨RX0, "setKind", "(II)V"⟩
abbrev cX0_setFigure : ByteArray := prog_2_method_19_code
def yX0_setFigure : MethodName := ⟨RX0, "setFigure", "(II)V"⟩
abbrev cX0_setGrief : ByteArray := prog_2_method_20_code
def yX0_setGrief : MethodName := ⟨RX0, "setGrief", "(II)V"⟩
abbrev cX0_place : ByteArray := prog_2_method_21_code
def yX0_place : MethodName := ⟨RX0, "place", "(II)V"⟩
abbrev cX0_allLeave : ByteArray := prog_2_method_22_code
def yX0_allLeave : MethodName := ⟨RX0, "allLeave", "()V"⟩
abbrev cX0_inform : ByteArray := prog_2_method_23_code
def yX0_inform : MethodName := ⟨RX0, "inform", "(I)V"⟩
abbrev cX0_weeps : ByteArray := prog_2_method_24_code
def yX0_weeps : MethodName := ⟨RX0, "weeps", "(I)I"⟩
abbrev cX0_mournersAt : ByteArray := prog_2_method_25_code
def yX0_mournersAt : MethodName := ⟨RX0, "mournersAt", "(I)I"⟩
abbrev cX0_weepingAt : ByteArray := prog_2_method_26_code
def yX0_weepingAt : MethodName := ⟨RX0, "weepingAt", "(I)I"⟩
abbrev cX0_weepingForInch : ByteArray := prog_2_method_27_code
def yX0_weepingForInch : MethodName := ⟨RX0, "weepingForInch", "(I)I"⟩
abbrev cX0_soak : ByteArray := prog_2_method_28_code
def yX0_soak : MethodName := ⟨RX0, "soak", "(II)V"⟩
abbrev cX0_fade : ByteArray := prog_2_method_29_code
def yX0_fade : MethodName := ⟨RX0, "fade", "()V"⟩
abbrev cX0_passDay : ByteArray := prog_2_method_30_code
def yX0_passDay : MethodName := ⟨RX0, "passDay", "()V"⟩
abbrev cX0_passDays : ByteArray := prog_2_method_31_code
def yX0_passDays : MethodName := ⟨RX0, "passDays", "(I)V"⟩
abbrev cX0_payOf : ByteArray := prog_2_method_32_code
def yX0_payOf : MethodName := ⟨RX0, "payOf", "(I)I"⟩
abbrev cX0_allPay : ByteArray := prog_2_method_33_code
def yX0_allPay : MethodName := ⟨RX0, "allPay", "()I"⟩
abbrev cX0_allInches : ByteArray := prog_2_method_34_code
def yX0_allInches : MethodName := ⟨RX0, "allInches", "()I"⟩
abbrev cX0_allGrief : ByteArray := prog_2_method_35_code
def yX0_allGrief : MethodName := ⟨RX0, "allGrief", "()I"⟩
abbrev cX0_daysToFoot : ByteArray := prog_2_method_36_code
def yX0_daysToFoot : MethodName := ⟨RX0, "daysToFoot", "(I)I"⟩
abbrev cX0_isDry : ByteArray := prog_2_method_37_code
def yX0_isDry : MethodName := ⟨RX0, "isDry", "()Z"⟩
abbrev cX0_driest : ByteArray := prog_2_method_38_code
def yX0_driest : MethodName := ⟨RX0, "driest", "()I"⟩
abbrev cX0_deepest : ByteArray := prog_2_method_39_code
def yX0_deepest : MethodName := ⟨RX0, "deepest", "()I"⟩
abbrev cX0_weepsMost : ByteArray := prog_2_method_40_code
def yX0_weepsMost : MethodName := ⟨RX0, "weepsMost", "()I"⟩
abbrev cX0_gravesWithMourners : ByteArray := prog_2_method_41_code
def yX0_gravesWithMourners : MethodName := ⟨RX0, "gravesWithMourners", "(I)I"⟩
abbrev cX0_deepOnes : ByteArray := prog_2_method_42_code
def yX0_deepOnes : MethodName := ⟨RX0, "deepOnes", "()I"⟩
def RX1 : String := "GravediggerPaid$Fraction"
def TX1 : u_T := fun k => match k with
  | _ => ("", "", "", false)
def tyX1 : Nat → FieldType := fun k => match k with
  | _ => .int
abbrev wsX10 : List Cond := u_ws RX1 TX1 0
theorem nmX1 : ∀ a, a < 0 → ∀ b, b < 0 → a ≠ b → (TX1 a).2.1 ≠ (TX1 b).2.1 := by decide +kernel
theorem tyX1_ok : ∀ k, k < 0 → parseFieldDescriptor (TX1 k).2.2.1 = some (tyX1 k) := by decide +kernel
abbrev cX1_told : ByteArray := prog_3_method_2_code
def yX1_told : MethodName := ⟨RX1, "told", "(JJI)J"⟩
abbrev cX1_power : ByteArray := prog_3_method_3_code
def yX1_power : MethodName := ⟨RX1, "power", "(JI)J"⟩
abbrev cX1_commonDivisor : ByteArray := prog_3_method_4_code
def yX1_commonDivisor : MethodName := ⟨RX1, "commonDivisor", "(JJ)J"⟩
def RX2 : String := "GravediggerPaid$Kinds"
def TX2 : u_T := fun k => match k with
  | _ => ("", "", "", false)
def tyX2 : Nat → FieldType := fun k => match k with
  | _ => .int
abbrev wsX20 : List Cond := u_ws RX2 TX2 0
theorem nmX2 : ∀ a, a < 0 → ∀ b, b < 0 → a ≠ b → (TX2 a).2.1 ≠ (TX2 b).2.1 := by decide +kernel
theorem tyX2_ok : ∀ k, k < 0 → parseFieldDescriptor (TX2 k).2.2.1 = some (tyX2 k) := by decide +kernel
abbrev cX2_ofLetter : ByteArray := prog_4_method_2_code
def yX2_ofLetter : MethodName := ⟨RX2, "ofLetter", "(I)I"⟩
abbrev cX2_weeping : ByteArray := prog_4_method_3_code
def yX2_weeping : MethodName := ⟨RX2, "weeping", "(III)I"⟩
abbrev cX2_fading : ByteArray := prog_4_method_4_code
def yX2_fading : MethodName := ⟨RX2, "fading", "(I)I"⟩
abbrev cX2_shock : ByteArray := prog_4_method_5_code
def yX2_shock : MethodName := ⟨RX2, "shock", "(I)I"⟩
def RX3 : String := "GravediggerPaid$Letters"
def TX3 : u_T := fun k => match k with
  | 0 => ("GravediggerPaid$Letters", "signs", "[I", true)
  | _ => ("GravediggerPaid$Letters", "size", "I", false)
def tyX3 : Nat → FieldType := fun k => match k with
  | 0 => .array .int
  | _ => .int
abbrev wsX30 : List Cond := u_ws RX3 TX3 2
theorem nmX3 : ∀ a, a < 2 → ∀ b, b < 2 → a ≠ b → (TX3 a).2.1 ≠ (TX3 b).2.1 := by decide +kernel
theorem tyX3_ok : ∀ k, k < 2 → parseFieldDescriptor (TX3 k).2.2.1 = some (tyX3 k) := by decide +kernel
abbrev cX3_init : ByteArray := prog_5_method_1_code
def yX3_init : MethodName := ⟨RX3, "<init>", "()V"⟩
abbrev cX3_isFull : ByteArray := prog_5_method_2_code
def yX3_isFull : MethodName := ⟨RX3, "isFull", "()Z"⟩
abbrev cX3_howMany : ByteArray := prog_5_method_3_code
def yX3_howMany : MethodName := ⟨RX3, "howMany", "()I"⟩
abbrev cX3_add : ByteArray := prog_5_method_4_code
def yX3_add : MethodName := ⟨RX3, "add", "(I)I"⟩
abbrev cX3_forget : ByteArray := prog_5_method_5_code
def yX3_forget : MethodName := ⟨RX3, "forget", "()V"⟩
abbrev cX3_tellTo : ByteArray := prog_5_method_6_code
def yX3_tellTo : MethodName := ⟨RX3, "tellTo", "(LGravediggerPaid$Churchyard;)I"⟩
abbrev cX3_signAt : ByteArray := prog_5_method_7_code
def yX3_signAt : MethodName := ⟨RX3, "signAt", "(I)I"⟩
abbrev cX3_digitAt : ByteArray := prog_5_method_8_code
def yX3_digitAt : MethodName := ⟨RX3, "digitAt", "(I)I"⟩
abbrev cX3_twoDigitsAt : ByteArray := prog_5_method_9_code
def yX3_twoDigitsAt : MethodName := ⟨RX3, "twoDigitsAt", "(I)I"⟩
abbrev cX3_lengthOf : ByteArray := prog_5_method_10_code
def yX3_lengthOf : MethodName := ⟨RX3, "lengthOf", "(I)I"⟩
abbrev cX3_firstMisfit : ByteArray := prog_5_method_11_code
def yX3_firstMisfit : MethodName := ⟨RX3, "firstMisfit", "()I"⟩
abbrev cX3_fitsInside : ByteArray := prog_5_method_12_code
def yX3_fitsInside : MethodName := ⟨RX3, "fitsInside", "(III)Z"⟩
abbrev cX3_statementComes : ByteArray := prog_5_method_13_code
def yX3_statementComes : MethodName := ⟨RX3, "statementComes", "(LGravediggerPaid$Churchyard;I)Z"⟩
abbrev cX3_mournerComesTo : ByteArray := prog_5_method_14_code
def yX3_mournerComesTo : MethodName := ⟨RX3, "mournerComesTo", "(LGravediggerPaid$Churchyard;II)Z"⟩
abbrev cX3_daysGoBy : ByteArray := prog_5_method_15_code
def yX3_daysGoBy : MethodName := ⟨RX3, "daysGoBy", "(LGravediggerPaid$Churchyard;I)Z"⟩
def RX4 : String := "GravediggerPaid$Seating"
def TX4 : u_T := fun k => match k with
  | 0 => ("GravediggerPaid$Seating", "weeping", "[I", true)
  | 1 => ("GravediggerPaid$Seating", "digits", "[I", true)
  | 2 => ("GravediggerPaid$Seating", "worth", "[I", true)
  | _ => ("GravediggerPaid$Seating", "best", "I", false)
def tyX4 : Nat → FieldType := fun k => match k with
  | 0 => .array .int
  | 1 => .array .int
  | 2 => .array .int
  | _ => .int
abbrev wsX40 : List Cond := u_ws RX4 TX4 4
theorem nmX4 : ∀ a, a < 4 → ∀ b, b < 4 → a ≠ b → (TX4 a).2.1 ≠ (TX4 b).2.1 := by decide +kernel
theorem tyX4_ok : ∀ k, k < 4 → parseFieldDescriptor (TX4 k).2.2.1 = some (tyX4 k) := by decide +kernel
abbrev cX4_init : ByteArray := prog_6_method_1_code
def yX4_init : MethodName := ⟨RX4, "<init>", "()V"⟩
abbrev cX4_weigh : ByteArray := prog_6_method_2_code
def yX4_weigh : MethodName := ⟨RX4, "weigh", "(LGravediggerPaid$Churchyard;)V"⟩
abbrev cX4_inches : ByteArray := prog_6_method_3_code
def yX4_inches : MethodName := ⟨RX4, "inches", "()I"⟩
abbrev cX4_graveOf : ByteArray := prog_6_method_4_code
def yX4_graveOf : MethodName := ⟨RX4, "graveOf", "(I)I"⟩
abbrev cX4_measureSets : ByteArray := prog_6_method_5_code
def yX4_measureSets : MethodName := ⟨RX4, "measureSets", "(LGravediggerPaid$Churchyard;I)V"⟩
abbrev cX4_bestWith : ByteArray := prog_6_method_6_code
def yX4_bestWith : MethodName := ⟨RX4, "bestWith", "(LGravediggerPaid$Churchyard;II)I"⟩
def RX5 : String := "GravediggerPaid$Thought"
def TX5 : u_T := fun k => match k with
  | 0 => ("GravediggerPaid$Thought", "now", "LGravediggerPaid$Churchyard;", true)
  | 1 => ("GravediggerPaid$Thought", "mind", "LGravediggerPaid$Churchyard;", true)
  | 2 => ("GravediggerPaid$Thought", "dayWeeping", "[I", true)
  | _ => ("GravediggerPaid$Thought", "seed", "I", false)
def tyX5 : Nat → FieldType := fun k => match k with
  | 0 => .object "GravediggerPaid$Churchyard"
  | 1 => .object "GravediggerPaid$Churchyard"
  | 2 => .array .int
  | _ => .int
abbrev wsX50 : List Cond := u_ws RX5 TX5 4
theorem nmX5 : ∀ a, a < 4 → ∀ b, b < 4 → a ≠ b → (TX5 a).2.1 ≠ (TX5 b).2.1 := by decide +kernel
theorem tyX5_ok : ∀ k, k < 4 → parseFieldDescriptor (TX5 k).2.2.1 = some (tyX5 k) := by decide +kernel
abbrev cX5_init : ByteArray := prog_7_method_1_code
def yX5_init : MethodName := ⟨RX5, "<init>", "(LGravediggerPaid$Churchyard;)V"⟩
abbrev cX5_after : ByteArray := prog_7_method_2_code
def yX5_after : MethodName := ⟨RX5, "after", "(I)LGravediggerPaid$Churchyard;"⟩
abbrev cX5_daysTillDeep : ByteArray := prog_7_method_3_code
def yX5_daysTillDeep : MethodName := ⟨RX5, "daysTillDeep", "(III)I"⟩
abbrev cX5_daysTillFootDeeper : ByteArray := prog_7_method_4_code
def yX5_daysTillFootDeeper : MethodName := ⟨RX5, "daysTillFootDeeper", "(I)I"⟩
abbrev cX5_graveFirstFootDeeper : ByteArray := prog_7_method_5_code
def yX5_graveFirstFootDeeper : MethodName := ⟨RX5, "graveFirstFootDeeper", "(I)I"⟩
abbrev cX5_graveFootDeeperInMind : ByteArray := prog_7_method_6_code
def yX5_graveFootDeeperInMind : MethodName := ⟨RX5, "graveFootDeeperInMind", "()I"⟩
abbrev cX5_daysTillDry : ByteArray := prog_7_method_7_code
def yX5_daysTillDry : MethodName := ⟨RX5, "daysTillDry", "(I)I"⟩
abbrev cX5_fewestFor : ByteArray := prog_7_method_8_code
def yX5_fewestFor : MethodName := ⟨RX5, "fewestFor", "(III)I"⟩
abbrev cX5_depthBy : ByteArray := prog_7_method_9_code
def yX5_depthBy : MethodName := ⟨RX5, "depthBy", "(III)I"⟩
abbrev cX5_whomToTell : ByteArray := prog_7_method_10_code
def yX5_whomToTell : MethodName := ⟨RX5, "whomToTell", "(I)I"⟩
abbrev cX5_inchesLostWithout : ByteArray := prog_7_method_11_code
def yX5_inchesLostWithout : MethodName := ⟨RX5, "inchesLostWithout", "(II)I"⟩
abbrev cX5_whomToSend : ByteArray := prog_7_method_12_code
def yX5_whomToSend : MethodName := ⟨RX5, "whomToSend", "(I)I"⟩
abbrev cX5_whereToBring : ByteArray := prog_7_method_13_code
def yX5_whereToBring : MethodName := ⟨RX5, "whereToBring", "(II)I"⟩
abbrev cX5_whichToChange : ByteArray := prog_7_method_14_code
def yX5_whichToChange : MethodName := ⟨RX5, "whichToChange", "(I)I"⟩
abbrev cX5_inchesMoreAsOnion : ByteArray := prog_7_method_15_code
def yX5_inchesMoreAsOnion : MethodName := ⟨RX5, "inchesMoreAsOnion", "(II)I"⟩
abbrev cX5_firstCalmPair : ByteArray := prog_7_method_16_code
def yX5_firstCalmPair : MethodName := ⟨RX5, "firstCalmPair", "(III)I"⟩
abbrev cX5_gain : ByteArray := prog_7_method_17_code
def yX5_gain : MethodName := ⟨RX5, "gain", "(IZIZI)I"⟩
abbrev cX5_waysToBeDeeper : ByteArray := prog_7_method_18_code
def yX5_waysToBeDeeper : MethodName := ⟨RX5, "waysToBeDeeper", "(IIII)J"⟩
abbrev cX5_inchesOnDays : ByteArray := prog_7_method_19_code
def yX5_inchesOnDays : MethodName := ⟨RX5, "inchesOnDays", "(III)I"⟩
abbrev cX5_whoAloneFits : ByteArray := prog_7_method_20_code
def yX5_whoAloneFits : MethodName := ⟨RX5, "whoAloneFits", "(I[II)I"⟩
abbrev cX5_kindsThatFit : ByteArray := prog_7_method_21_code
def yX5_kindsThatFit : MethodName := ⟨RX5, "kindsThatFit", "(I[II)I"⟩
abbrev cX5_figuresThatFit : ByteArray := prog_7_method_22_code
def yX5_figuresThatFit : MethodName := ⟨RX5, "figuresThatFit", "(I[II)I"⟩
abbrev cX5_fitsRow : ByteArray := prog_7_method_23_code
def yX5_fitsRow : MethodName := ⟨RX5, "fitsRow", "(I[II)Z"⟩
abbrev cX5_payByLot : ByteArray := prog_7_method_24_code
def yX5_payByLot : MethodName := ⟨RX5, "payByLot", "(II)I"⟩
abbrev cX5_inchesByLot : ByteArray := prog_7_method_25_code
def yX5_inchesByLot : MethodName := ⟨RX5, "inchesByLot", "(II)I"⟩
abbrev cX5_drawChurchyard : ByteArray := prog_7_method_26_code
def yX5_drawChurchyard : MethodName := ⟨RX5, "drawChurchyard", "()V"⟩
abbrev cX5_drawBelow : ByteArray := prog_7_method_27_code
def yX5_drawBelow : MethodName := ⟨RX5, "drawBelow", "(I)I"⟩
def RX6 : String := "GravediggerPaid"
def TX6 : u_T := fun k => match k with
  | 0 => ("GravediggerPaid", "now", "LGravediggerPaid$Churchyard;", true)
  | 1 => ("GravediggerPaid", "draft", "LGravediggerPaid$Churchyard;", true)
  | 2 => ("GravediggerPaid", "picture", "LGravediggerPaid$Churchyard;", true)
  | 3 => ("GravediggerPaid", "thought", "LGravediggerPaid$Thought;", true)
  | 4 => ("GravediggerPaid", "letters", "LGravediggerPaid$Letters;", true)
  | 5 => ("GravediggerPaid", "seating", "LGravediggerPaid$Seating;", true)
  | 6 => ("GravediggerPaid", "numbers", "[I", true)
  | 7 => ("GravediggerPaid", "refusals", "[I", true)
  | 8 => ("GravediggerPaid", "numbersSize", "I", false)
  | _ => ("GravediggerPaid", "pictureTaken", "Z", false)
def tyX6 : Nat → FieldType := fun k => match k with
  | 0 => .object "GravediggerPaid$Churchyard"
  | 1 => .object "GravediggerPaid$Churchyard"
  | 2 => .object "GravediggerPaid$Churchyard"
  | 3 => .object "GravediggerPaid$Thought"
  | 4 => .object "GravediggerPaid$Letters"
  | 5 => .object "GravediggerPaid$Seating"
  | 6 => .array .int
  | 7 => .array .int
  | 8 => .int
  | _ => .boolean
abbrev wsX60 : List Cond := u_ws RX6 TX6 10
theorem nmX6 : ∀ a, a < 10 → ∀ b, b < 10 → a ≠ b → (TX6 a).2.1 ≠ (TX6 b).2.1 := by decide +kernel
theorem tyX6_ok : ∀ k, k < 10 → parseFieldDescriptor (TX6 k).2.2.1 = some (tyX6 k) := by decide +kernel
abbrev cX6_init : ByteArray := prog_1_method_1_code
def yX6_init : MethodName := ⟨RX6, "<init>", "()V"⟩
abbrev cX6_letter : ByteArray := prog_1_method_2_code
def yX6_letter : MethodName := ⟨RX6, "letter", "(I)I"⟩
abbrev cX6_yard : ByteArray := prog_1_method_3_code
def yX6_yard : MethodName := ⟨RX6, "yard", "()I"⟩
abbrev cX6_grave : ByteArray := prog_1_method_4_code
def yX6_grave : MethodName := ⟨RX6, "grave", "(II)I"⟩
abbrev cX6_mourner : ByteArray := prog_1_method_5_code
def yX6_mourner : MethodName := ⟨RX6, "mourner", "(II)I"⟩
abbrev cX6_goes : ByteArray := prog_1_method_6_code
def yX6_goes : MethodName := ⟨RX6, "goes", "(II)I"⟩
abbrev cX6_leaves : ByteArray := prog_1_method_7_code
def yX6_leaves : MethodName := ⟨RX6, "leaves", "(I)I"⟩
abbrev cX6_hears : ByteArray := prog_1_method_8_code
def yX6_hears : MethodName := ⟨RX6, "hears", "(I)I"⟩
abbrev cX6_grieves : ByteArray := prog_1_method_9_code
def yX6_grieves : MethodName := ⟨RX6, "grieves", "(II)I"⟩
abbrev cX6_hardens : ByteArray := prog_1_method_10_code
def yX6_hardens : MethodName := ⟨RX6, "hardens", "(II)I"⟩
abbrev cX6_turn : ByteArray := prog_1_method_11_code
def yX6_turn : MethodName := ⟨RX6, "turn", "(III)I"⟩
abbrev cX6_days : ByteArray := prog_1_method_12_code
def yX6_days : MethodName := ⟨RX6, "days", "(I)I"⟩
abbrev cX6_graveThen : ByteArray := prog_1_method_13_code
def yX6_graveThen : MethodName := ⟨RX6, "graveThen", "(III)I"⟩
abbrev cX6_griefThen : ByteArray := prog_1_method_14_code
def yX6_griefThen : MethodName := ⟨RX6, "griefThen", "(II)I"⟩
abbrev cX6_payThen : ByteArray := prog_1_method_15_code
def yX6_payThen : MethodName := ⟨RX6, "payThen", "(I)I"⟩
abbrev cX6_deep : ByteArray := prog_1_method_16_code
def yX6_deep : MethodName := ⟨RX6, "deep", "(II)I"⟩
abbrev cX6_first : ByteArray := prog_1_method_17_code
def yX6_first : MethodName := ⟨RX6, "first", "(I)I"⟩
abbrev cX6_seat : ByteArray := prog_1_method_18_code
def yX6_seat : MethodName := ⟨RX6, "seat", "(I)I"⟩
abbrev cX6_fewest : ByteArray := prog_1_method_19_code
def yX6_fewest : MethodName := ⟨RX6, "fewest", "(III)I"⟩
abbrev cX6_tell : ByteArray := prog_1_method_20_code
def yX6_tell : MethodName := ⟨RX6, "tell", "(I)I"⟩
abbrev cX6_send : ByteArray := prog_1_method_21_code
def yX6_send : MethodName := ⟨RX6, "send", "(II)I"⟩
abbrev cX6_bring : ByteArray := prog_1_method_22_code
def yX6_bring : MethodName := ⟨RX6, "bring", "(II)I"⟩
abbrev cX6_change : ByteArray := prog_1_method_23_code
def yX6_change : MethodName := ⟨RX6, "change", "(I)I"⟩
abbrev cX6_onion : ByteArray := prog_1_method_24_code
def yX6_onion : MethodName := ⟨RX6, "onion", "(II)I"⟩
abbrev cX6_tears : ByteArray := prog_1_method_25_code
def yX6_tears : MethodName := ⟨RX6, "tears", "()I"⟩
abbrev cX6_alone : ByteArray := prog_1_method_26_code
def yX6_alone : MethodName := ⟨RX6, "alone", "(I)I"⟩
abbrev cX6_level : ByteArray := prog_1_method_27_code
def yX6_level : MethodName := ⟨RX6, "level", "()I"⟩
abbrev cX6_two : ByteArray := prog_1_method_28_code
def yX6_two : MethodName := ⟨RX6, "two", "(III)I"⟩
abbrev cX6_share : ByteArray := prog_1_method_29_code
def yX6_share : MethodName := ⟨RX6, "share", "(II)J"⟩
abbrev cX6_winter : ByteArray := prog_1_method_30_code
def yX6_winter : MethodName := ⟨RX6, "winter", "(IIIII)J"⟩
abbrev cX6_mean : ByteArray := prog_1_method_31_code
def yX6_mean : MethodName := ⟨RX6, "mean", "(I)J"⟩
abbrev cX6_whoWept : ByteArray := prog_1_method_32_code
def yX6_whoWept : MethodName := ⟨RX6, "whoWept", "(I)I"⟩
abbrev cX6_whatIs : ByteArray := prog_1_method_33_code
def yX6_whatIs : MethodName := ⟨RX6, "whatIs", "(II)I"⟩
abbrev cX6_row : ByteArray := prog_1_method_34_code
def yX6_row : MethodName := ⟨RX6, "row", "(I)I"⟩
abbrev cX6_judge : ByteArray := prog_1_method_35_code
def yX6_judge : MethodName := ⟨RX6, "judge", "()I"⟩
abbrev cX6_clear : ByteArray := prog_1_method_36_code
def yX6_clear : MethodName := ⟨RX6, "clear", "()I"⟩
abbrev cX6_lots : ByteArray := prog_1_method_37_code
def yX6_lots : MethodName := ⟨RX6, "lots", "(III)I"⟩
abbrev cX6_image : ByteArray := prog_1_method_38_code
def yX6_image : MethodName := ⟨RX6, "image", "()I"⟩
abbrev cX6_on : ByteArray := prog_1_method_39_code
def yX6_on : MethodName := ⟨RX6, "on", "()I"⟩
abbrev cX6_count : ByteArray := prog_1_method_40_code
def yX6_count : MethodName := ⟨RX6, "count", "(I)I"⟩
abbrev cX6_refuse : ByteArray := prog_1_method_41_code
def yX6_refuse : MethodName := ⟨RX6, "refuse", "(I)I"⟩
abbrev cX6_faultOfRange : ByteArray := prog_1_method_42_code
def yX6_faultOfRange : MethodName := ⟨RX6, "faultOfRange", "(III)I"⟩
abbrev cX6_firstUntrueGrief : ByteArray := prog_1_method_43_code
def yX6_firstUntrueGrief : MethodName := ⟨RX6, "firstUntrueGrief", "()I"⟩
def RX7 : String := "GravediggerPaidModel"
def TX7 : u_T := fun k => match k with
  | 0 => ("GravediggerPaidModel", "s", "[I", true)
  | 1 => ("GravediggerPaidModel", "m", "[I", true)
  | 2 => ("GravediggerPaidModel", "image", "[I", true)
  | 3 => ("GravediggerPaidModel", "was", "[I", true)
  | 4 => ("GravediggerPaidModel", "hasImage", "Z", false)
  | 5 => ("GravediggerPaidModel", "letters", "[I", true)
  | 6 => ("GravediggerPaidModel", "row", "[I", true)
  | 7 => ("GravediggerPaidModel", "refused", "[I", true)
  | 8 => ("GravediggerPaidModel", "letterMany", "I", false)
  | 9 => ("GravediggerPaidModel", "rowMany", "I", false)
  | 10 => ("GravediggerPaidModel", "place", "I", false)
  | 11 => ("GravediggerPaidModel", "numbers", "[I", true)
  | 12 => ("GravediggerPaidModel", "given", "[I", true)
  | 13 => ("GravediggerPaidModel", "bestGiven", "[I", true)
  | 14 => ("GravediggerPaidModel", "poured", "[I", true)
  | 15 => ("GravediggerPaidModel", "bestInches", "I", false)
  | _ => ("GravediggerPaidModel", "seed", "I", false)
def tyX7 : Nat → FieldType := fun k => match k with
  | 0 => .array .int
  | 1 => .array .int
  | 2 => .array .int
  | 3 => .array .int
  | 4 => .boolean
  | 5 => .array .int
  | 6 => .array .int
  | 7 => .array .int
  | 8 => .int
  | 9 => .int
  | 10 => .int
  | 11 => .array .int
  | 12 => .array .int
  | 13 => .array .int
  | 14 => .array .int
  | 15 => .int
  | _ => .int
abbrev wsX70 : List Cond := u_ws RX7 TX7 17
theorem nmX7 : ∀ a, a < 17 → ∀ b, b < 17 → a ≠ b → (TX7 a).2.1 ≠ (TX7 b).2.1 := by decide +kernel
theorem tyX7_ok : ∀ k, k < 17 → parseFieldDescriptor (TX7 k).2.2.1 = some (tyX7 k) := by decide +kernel
abbrev cX7_init : ByteArray := prog_9_method_1_code
def yX7_init : MethodName := ⟨RX7, "<init>", "()V"⟩
abbrev cX7_isIn : ByteArray := prog_9_method_2_code
def yX7_isIn : MethodName := ⟨RX7, "isIn", "(III)Z"⟩
abbrev cX7_least : ByteArray := prog_9_method_3_code
def yX7_least : MethodName := ⟨RX7, "least", "(II)I"⟩
abbrev cX7_copies : ByteArray := prog_9_method_4_code
def yX7_copies : MethodName := ⟨RX7, "copies", "([I[I)V"⟩
abbrev cX7_no : ByteArray := prog_9_method_5_code
def yX7_no : MethodName := ⟨RX7, "no", "(I)I"⟩
abbrev cX7_noFar : ByteArray := prog_9_method_6_code
def yX7_noFar : MethodName := ⟨RX7, "noFar", "(I)I"⟩
abbrev cX7_noWide : ByteArray := prog_9_method_7_code
def yX7_noWide : MethodName := ⟨RX7, "noWide", "(I)J"⟩
abbrev cX7_ofG : ByteArray := prog_9_method_8_code
def yX7_ofG : MethodName := ⟨RX7, "ofG", "(II)I"⟩
abbrev cX7_ofM : ByteArray := prog_9_method_9_code
def yX7_ofM : MethodName := ⟨RX7, "ofM", "(II)I"⟩
abbrev cX7_isGrave : ByteArray := prog_9_method_10_code
def yX7_isGrave : MethodName := ⟨RX7, "isGrave", "(I)Z"⟩
abbrev cX7_isMourner : ByteArray := prog_9_method_11_code
def yX7_isMourner : MethodName := ⟨RX7, "isMourner", "(I)Z"⟩
abbrev cX7_has : ByteArray := prog_9_method_12_code
def yX7_has : MethodName := ⟨RX7, "has", "(II)Z"⟩
abbrev cX7_bits : ByteArray := prog_9_method_13_code
def yX7_bits : MethodName := ⟨RX7, "bits", "(I)I"⟩
abbrev cX7_weeps : ByteArray := prog_9_method_14_code
def yX7_weeps : MethodName := ⟨RX7, "weeps", "([II)I"⟩
abbrev cX7_fadesBy : ByteArray := prog_9_method_15_code
def yX7_fadesBy : MethodName := ⟨RX7, "fadesBy", "(I)I"⟩
abbrev cX7_toldBy : ByteArray := prog_9_method_16_code
def yX7_toldBy : MethodName := ⟨RX7, "toldBy", "(I)I"⟩
abbrev cX7_soaks : ByteArray := prog_9_method_17_code
def yX7_soaks : MethodName := ⟨RX7, "soaks", "([III)V"⟩
abbrev cX7_day : ByteArray := prog_9_method_18_code
def yX7_day : MethodName := ⟨RX7, "day", "([IZ)V"⟩
abbrev cX7_daysOn : ByteArray := prog_9_method_19_code
def yX7_daysOn : MethodName := ⟨RX7, "daysOn", "([II)V"⟩
abbrev cX7_isTold : ByteArray := prog_9_method_20_code
def yX7_isTold : MethodName := ⟨RX7, "isTold", "([II)V"⟩
abbrev cX7_payIn : ByteArray := prog_9_method_21_code
def yX7_payIn : MethodName := ⟨RX7, "payIn", "([I)I"⟩
abbrev cX7_inchesIn : ByteArray := prog_9_method_22_code
def yX7_inchesIn : MethodName := ⟨RX7, "inchesIn", "([I)I"⟩
abbrev cX7_letter : ByteArray := prog_9_method_23_code
def yX7_letter : MethodName := ⟨RX7, "letter", "(I)I"⟩
abbrev cX7_here : ByteArray := prog_9_method_24_code
def yX7_here : MethodName := ⟨RX7, "here", "()I"⟩
abbrev cX7_readsNumber : ByteArray := prog_9_method_25_code
def yX7_readsNumber : MethodName := ⟨RX7, "readsNumber", "(II)Z"⟩
abbrev cX7_kindBy : ByteArray := prog_9_method_26_code
def yX7_kindBy : MethodName := ⟨RX7, "kindBy", "(I)I"⟩
abbrev cX7_readsKind : ByteArray := prog_9_method_27_code
def yX7_readsKind : MethodName := ⟨RX7, "readsKind", "()Z"⟩
abbrev cX7_readsStatement : ByteArray := prog_9_method_28_code
def yX7_readsStatement : MethodName := ⟨RX7, "readsStatement", "()Z"⟩
abbrev cX7_isDone : ByteArray := prog_9_method_29_code
def yX7_isDone : MethodName := ⟨RX7, "isDone", "(I)Z"⟩
abbrev cX7_yard : ByteArray := prog_9_method_30_code
def yX7_yard : MethodName := ⟨RX7, "yard", "()I"⟩
abbrev cX7_weepingAt : ByteArray := prog_9_method_31_code
def yX7_weepingAt : MethodName := ⟨RX7, "weepingAt", "(I)I"⟩
abbrev cX7_peopleAt : ByteArray := prog_9_method_32_code
def yX7_peopleAt : MethodName := ⟨RX7, "peopleAt", "(I)I"⟩
abbrev cX7_daysTo : ByteArray := prog_9_method_33_code
def yX7_daysTo : MethodName := ⟨RX7, "daysTo", "(I)I"⟩
abbrev cX7_grave : ByteArray := prog_9_method_34_code
def yX7_grave : MethodName := ⟨RX7, "grave", "(II)I"⟩
abbrev cX7_mourner : ByteArray := prog_9_method_35_code
def yX7_mourner : MethodName := ⟨RX7, "mourner", "(II)I"⟩
abbrev cX7_goes : ByteArray := prog_9_method_36_code
def yX7_goes : MethodName := ⟨RX7, "goes", "(II)I"⟩
abbrev cX7_leaves : ByteArray := prog_9_method_37_code
def yX7_leaves : MethodName := ⟨RX7, "leaves", "(I)I"⟩
abbrev cX7_hears : ByteArray := prog_9_method_38_code
def yX7_hears : MethodName := ⟨RX7, "hears", "(I)I"⟩
abbrev cX7_wrongBy : ByteArray := prog_9_method_39_code
def yX7_wrongBy : MethodName := ⟨RX7, "wrongBy", "(III)I"⟩
abbrev cX7_grieves : ByteArray := prog_9_method_40_code
def yX7_grieves : MethodName := ⟨RX7, "grieves", "(II)I"⟩
abbrev cX7_hardens : ByteArray := prog_9_method_41_code
def yX7_hardens : MethodName := ⟨RX7, "hardens", "(II)I"⟩
abbrev cX7_turn : ByteArray := prog_9_method_42_code
def yX7_turn : MethodName := ⟨RX7, "turn", "(III)I"⟩
abbrev cX7_days : ByteArray := prog_9_method_43_code
def yX7_days : MethodName := ⟨RX7, "days", "(I)I"⟩
abbrev cX7_takes : ByteArray := prog_9_method_44_code
def yX7_takes : MethodName := ⟨RX7, "takes", "(I)V"⟩
abbrev cX7_graveThen : ByteArray := prog_9_method_45_code
def yX7_graveThen : MethodName := ⟨RX7, "graveThen", "(III)I"⟩
abbrev cX7_griefThen : ByteArray := prog_9_method_46_code
def yX7_griefThen : MethodName := ⟨RX7, "griefThen", "(II)I"⟩
abbrev cX7_payThen : ByteArray := prog_9_method_47_code
def yX7_payThen : MethodName := ⟨RX7, "payThen", "(I)I"⟩
abbrev cX7_deep : ByteArray := prog_9_method_48_code
def yX7_deep : MethodName := ⟨RX7, "deep", "(II)I"⟩
abbrev cX7_firstFoot : ByteArray := prog_9_method_49_code
def yX7_firstFoot : MethodName := ⟨RX7, "firstFoot", "(I)I"⟩
abbrev cX7_dry : ByteArray := prog_9_method_50_code
def yX7_dry : MethodName := ⟨RX7, "dry", "()I"⟩
abbrev cX7_extreme : ByteArray := prog_9_method_51_code
def yX7_extreme : MethodName := ⟨RX7, "extreme", "(I)I"⟩
abbrev cX7_first : ByteArray := prog_9_method_52_code
def yX7_first : MethodName := ⟨RX7, "first", "(I)I"⟩
abbrev cX7_inchesGiven : ByteArray := prog_9_method_53_code
def yX7_inchesGiven : MethodName := ⟨RX7, "inchesGiven", "()I"⟩
abbrev cX7_seats : ByteArray := prog_9_method_54_code
def yX7_seats : MethodName := ⟨RX7, "seats", "(I)V"⟩
abbrev cX7_seat : ByteArray := prog_9_method_55_code
def yX7_seat : MethodName := ⟨RX7, "seat", "(I)I"⟩
abbrev cX7_setsAlone : ByteArray := prog_9_method_56_code
def yX7_setsAlone : MethodName := ⟨RX7, "setsAlone", "(II)V"⟩
abbrev cX7_fewest : ByteArray := prog_9_method_57_code
def yX7_fewest : MethodName := ⟨RX7, "fewest", "(III)I"⟩
abbrev cX7_inchesNow : ByteArray := prog_9_method_58_code
def yX7_inchesNow : MethodName := ⟨RX7, "inchesNow", "(I)I"⟩
abbrev cX7_tell : ByteArray := prog_9_method_59_code
def yX7_tell : MethodName := ⟨RX7, "tell", "(I)I"⟩
abbrev cX7_send : ByteArray := prog_9_method_60_code
def yX7_send : MethodName := ⟨RX7, "send", "(II)I"⟩
abbrev cX7_payNow : ByteArray := prog_9_method_61_code
def yX7_payNow : MethodName := ⟨RX7, "payNow", "(I)I"⟩
abbrev cX7_bring : ByteArray := prog_9_method_62_code
def yX7_bring : MethodName := ⟨RX7, "bring", "(II)I"⟩
abbrev cX7_change : ByteArray := prog_9_method_63_code
def yX7_change : MethodName := ⟨RX7, "change", "(I)I"⟩
abbrev cX7_onion : ByteArray := prog_9_method_64_code
def yX7_onion : MethodName := ⟨RX7, "onion", "(II)I"⟩
abbrev cX7_tears : ByteArray := prog_9_method_65_code
def yX7_tears : MethodName := ⟨RX7, "tears", "()I"⟩
abbrev cX7_alone : ByteArray := prog_9_method_66_code
def yX7_alone : MethodName := ⟨RX7, "alone", "(I)I"⟩
abbrev cX7_level : ByteArray := prog_9_method_67_code
def yX7_level : MethodName := ⟨RX7, "level", "()I"⟩
abbrev cX7_ownBy : ByteArray := prog_9_method_68_code
def yX7_ownBy : MethodName := ⟨RX7, "ownBy", "(IIIIII)I"⟩
abbrev cX7_two : ByteArray := prog_9_method_69_code
def yX7_two : MethodName := ⟨RX7, "two", "(III)I"⟩
abbrev cX7_gcd : ByteArray := prog_9_method_70_code
def yX7_gcd : MethodName := ⟨RX7, "gcd", "(JJ)J"⟩
abbrev cX7_partOf : ByteArray := prog_9_method_71_code
def yX7_partOf : MethodName := ⟨RX7, "partOf", "(JJI)J"⟩
abbrev cX7_share : ByteArray := prog_9_method_72_code
def yX7_share : MethodName := ⟨RX7, "share", "(II)J"⟩
abbrev cX7_winter : ByteArray := prog_9_method_73_code
def yX7_winter : MethodName := ⟨RX7, "winter", "(IIIII)J"⟩
abbrev cX7_mean : ByteArray := prog_9_method_74_code
def yX7_mean : MethodName := ⟨RX7, "mean", "(I)J"⟩
abbrev cX7_isDeepSo : ByteArray := prog_9_method_75_code
def yX7_isDeepSo : MethodName := ⟨RX7, "isDeepSo", "(I)Z"⟩
abbrev cX7_whoWept : ByteArray := prog_9_method_76_code
def yX7_whoWept : MethodName := ⟨RX7, "whoWept", "(I)I"⟩
abbrev cX7_whatIs : ByteArray := prog_9_method_77_code
def yX7_whatIs : MethodName := ⟨RX7, "whatIs", "(II)I"⟩
abbrev cX7_row : ByteArray := prog_9_method_78_code
def yX7_row : MethodName := ⟨RX7, "row", "(I)I"⟩
abbrev cX7_judge : ByteArray := prog_9_method_79_code
def yX7_judge : MethodName := ⟨RX7, "judge", "()I"⟩
abbrev cX7_clear : ByteArray := prog_9_method_80_code
def yX7_clear : MethodName := ⟨RX7, "clear", "()I"⟩
abbrev cX7_drawn : ByteArray := prog_9_method_81_code
def yX7_drawn : MethodName := ⟨RX7, "drawn", "(I)I"⟩
abbrev cX7_lots : ByteArray := prog_9_method_82_code
def yX7_lots : MethodName := ⟨RX7, "lots", "(III)I"⟩
abbrev cX7_image : ByteArray := prog_9_method_83_code
def yX7_image : MethodName := ⟨RX7, "image", "()I"⟩
abbrev cX7_on : ByteArray := prog_9_method_84_code
def yX7_on : MethodName := ⟨RX7, "on", "()I"⟩
abbrev cX7_count : ByteArray := prog_9_method_85_code
def yX7_count : MethodName := ⟨RX7, "count", "(I)I"⟩
def RJ6 : String := "java/lang/Integer"
def TJ6 : u_T := fun k => match k with
  | _ => ("", "", "", false)
def tyJ6 : Nat → FieldType := fun k => match k with
  | _ => .int
abbrev wsJ60 : List Cond := u_ws RJ6 TJ6 0
theorem nmJ6 : ∀ a, a < 0 → ∀ b, b < 0 → a ≠ b → (TJ6 a).2.1 ≠ (TJ6 b).2.1 := by decide +kernel
theorem tyJ6_ok : ∀ k, k < 0 → parseFieldDescriptor (TJ6 k).2.2.1 = some (tyJ6 k) := by decide +kernel
abbrev cJ6_bitCount_0f7a4 : ByteArray := prog_10_method_49_code
def yJ6_bitCount_0f7a4 : MethodName := ⟨RJ6, "bitCount", "(I)I"⟩
def RJ9 : String := "java/lang/Math"
def TJ9 : u_T := fun k => match k with
  | _ => ("", "", "", false)
def tyJ9 : Nat → FieldType := fun k => match k with
  | _ => .int
abbrev wsJ90 : List Cond := u_ws RJ9 TJ9 0
theorem nmJ9 : ∀ a, a < 0 → ∀ b, b < 0 → a ≠ b → (TJ9 a).2.1 ≠ (TJ9 b).2.1 := by decide +kernel
theorem tyJ9_ok : ∀ k, k < 0 → parseFieldDescriptor (TJ9 k).2.2.1 = some (tyJ9 k) := by decide +kernel
abbrev cJ9_floorDiv_7cf53 : ByteArray := prog_11_method_47_code
def yJ9_floorDiv_7cf53 : MethodName := ⟨RJ9, "floorDiv", "(II)I"⟩
abbrev cJ9_max_7cf53 : ByteArray := prog_11_method_65_code
def yJ9_max_7cf53 : MethodName := ⟨RJ9, "max", "(II)I"⟩
abbrev cJ9_max_f86c9 : ByteArray := prog_11_method_66_code
def yJ9_max_f86c9 : MethodName := ⟨RJ9, "max", "(JJ)J"⟩
abbrev cJ9_min_7cf53 : ByteArray := prog_11_method_69_code
def yJ9_min_7cf53 : MethodName := ⟨RJ9, "min", "(II)I"⟩
def RL : String := "GravediggerPaidLaw"
abbrev cL_law : ByteArray := code
def yL_law : MethodName := ⟨RL, "law", "([I)Z"⟩
end
section
/-- the tables' words that a call may take along -/
def eT : List Cond := lw_tbl.filter goodWord
theorem e_t {w : Cond} (h : w ∈ lw_tbl) (hg : goodWord w = true) : w ∈ eT := List.mem_filter.mpr ⟨h, hg⟩
theorem e_good : ∀ w ∈ eT, goodWord w = true := fun _ h => (List.mem_filter.mp h).2
theorem lw_sel {w : Cond} (i : Nat) (h : (k2_sels lw_privs)[i]? = some w) (hg : goodWord w = true) : w ∈ eT := e_t (List.mem_append_left _ (List.mem_of_getElem? h)) hg
theorem lw_t1 {w : Cond} (i : Nat) (h : tables_1_1[i]? = some w) (hg : goodWord w = true) : w ∈ eT := e_t (List.mem_append_right _ (List.mem_append_left _ (List.mem_of_getElem? h))) hg
theorem lw_t2 {w : Cond} (i : Nat) (h : tables_1_2[i]? = some w) (hg : goodWord w = true) : w ∈ eT := e_t (List.mem_append_right _ (List.mem_append_right _ (List.mem_append_left _ (List.mem_of_getElem? h)))) hg
theorem lw_t3 {w : Cond} (i : Nat) (h : tables_1_3[i]? = some w) (hg : goodWord w = true) : w ∈ eT := e_t (List.mem_append_right _ (List.mem_append_right _ (List.mem_append_right _ (List.mem_append_left _ (List.mem_of_getElem? h))))) hg
theorem lw_t4 {w : Cond} (i : Nat) (h : tables_1_4[i]? = some w) (hg : goodWord w = true) : w ∈ eT := e_t (List.mem_append_right _ (List.mem_append_right _ (List.mem_append_right _ (List.mem_append_right _ (List.mem_append_left _ (List.mem_of_getElem? h)))))) hg
theorem lw_t5 {w : Cond} (i : Nat) (h : tables_1_5[i]? = some w) (hg : goodWord w = true) : w ∈ eT := e_t (List.mem_append_right _ (List.mem_append_right _ (List.mem_append_right _ (List.mem_append_right _ (List.mem_append_right _ (List.mem_of_getElem? h)))))) hg
theorem q0 : Cond.initialized RL ∈ eT := lw_t1 0 rfl rfl
theorem q1 : Cond.initialized RX6 ∈ eT := lw_t1 1 rfl rfl
theorem q2 : Cond.initialized RX0 ∈ eT := lw_t1 2 rfl rfl
theorem q3 : Cond.initialized RX5 ∈ eT := lw_t1 3 rfl rfl
theorem q4 : Cond.initialized RX3 ∈ eT := lw_t1 4 rfl rfl
theorem q5 : Cond.initialized RX4 ∈ eT := lw_t1 5 rfl rfl
theorem q6 : Cond.initialized RX7 ∈ eT := lw_t1 6 rfl rfl
theorem q7 : Cond.initialized RX2 ∈ eT := lw_t1 7 rfl rfl
theorem q8 : Cond.initialized RJ9 ∈ eT := lw_t1 8 rfl rfl
theorem q9 : Cond.initialized RJ6 ∈ eT := lw_t1 9 rfl rfl
theorem q10 : Cond.initialized RX1 ∈ eT := lw_t1 10 rfl rfl
theorem q11 : Cond.classLink RL 7 RX6 ∈ eT := lw_t1 11 rfl rfl
theorem q12 : Cond.instantiable RX6 10 ∈ eT := lw_t1 12 rfl rfl
theorem q13 : Cond.methodLink RL 9 yX6_init ∈ eT := lw_t1 13 rfl rfl
theorem q14 : Cond.instanceMethod yX6_init ∈ eT := lw_t1 14 rfl rfl
theorem q15 : Cond.code yX6_init cX6_init 2 none ∈ eT := lw_t1 15 rfl rfl
theorem q16 : Cond.methodLink RX6 1 objectInit ∈ eT := lw_t1 16 rfl rfl
theorem q17 : Cond.instanceMethod objectInit ∈ eT := lw_t1 17 rfl rfl
theorem q18 : Cond.code objectInit ⟨#[0xb1]⟩ 1 none ∈ eT := lw_t1 18 rfl rfl
theorem q19 : Cond.classLink RX6 7 RX0 ∈ eT := lw_t1 19 rfl rfl
theorem q20 : Cond.instantiable RX0 10 ∈ eT := lw_t1 20 rfl rfl
theorem q21 : Cond.methodLink RX6 9 yX0_init ∈ eT := lw_t1 21 rfl rfl
theorem q22 : Cond.instanceMethod yX0_init ∈ eT := lw_t1 22 rfl rfl
theorem q23 : Cond.code yX0_init cX0_init 1 none ∈ eT := lw_t1 23 rfl rfl
theorem q24 : Cond.methodLink RX0 3 objectInit ∈ eT := lw_t1 24 rfl rfl
theorem q25 : Cond.methodLink RX0 43 yX0_allLeave ∈ eT := lw_t1 25 rfl rfl
theorem q26 : Cond.instanceMethod yX0_allLeave ∈ eT := lw_t1 26 rfl rfl
theorem q27 : Cond.selects RX0 yX0_allLeave yX0_allLeave ∈ eT := lw_t1 27 rfl rfl
theorem q28 : Cond.code yX0_allLeave cX0_allLeave 2 none ∈ eT := lw_t1 28 rfl rfl
theorem q29 : Cond.fieldLink RX0 11 "GravediggerPaid$Churchyard" "hard" "[I" ∈ eT := lw_t1 29 rfl rfl
theorem q30 : Cond.fieldLink RX0 15 "GravediggerPaid$Churchyard" "inches" "[I" ∈ eT := lw_t1 30 rfl rfl
theorem q31 : Cond.fieldLink RX0 18 "GravediggerPaid$Churchyard" "wet" "[I" ∈ eT := lw_t1 31 rfl rfl
theorem q32 : Cond.fieldLink RX0 21 "GravediggerPaid$Churchyard" "kinds" "[I" ∈ eT := lw_t1 32 rfl rfl
theorem q33 : Cond.fieldLink RX0 24 "GravediggerPaid$Churchyard" "figures" "[I" ∈ eT := lw_t1 33 rfl rfl
theorem q34 : Cond.fieldLink RX0 27 "GravediggerPaid$Churchyard" "griefs" "[I" ∈ eT := lw_t1 34 rfl rfl
theorem q35 : Cond.fieldLink RX0 30 "GravediggerPaid$Churchyard" "places" "[I" ∈ eT := lw_t1 35 rfl rfl
theorem q36 : Cond.fieldLink RX0 33 "GravediggerPaid$Churchyard" "graves" "I" ∈ eT := lw_t1 36 rfl rfl
theorem q37 : Cond.fieldLink RX0 37 "GravediggerPaid$Churchyard" "mourners" "I" ∈ eT := lw_t1 37 rfl rfl
theorem q38 : Cond.fieldLink RX0 40 "GravediggerPaid$Churchyard" "day" "I" ∈ eT := lw_t1 38 rfl rfl
theorem q39 : Cond.laysFinal "GravediggerPaid$Churchyard" "GravediggerPaid$Churchyard" "hard" "[I" ∈ eT := lw_t1 39 rfl rfl
theorem q41 : Cond.laysFinal "GravediggerPaid$Churchyard" "GravediggerPaid$Churchyard" "inches" "[I" ∈ eT := lw_t1 41 rfl rfl
theorem q43 : Cond.laysFinal "GravediggerPaid$Churchyard" "GravediggerPaid$Churchyard" "wet" "[I" ∈ eT := lw_t1 43 rfl rfl
theorem q45 : Cond.laysFinal "GravediggerPaid$Churchyard" "GravediggerPaid$Churchyard" "kinds" "[I" ∈ eT := lw_t1 45 rfl rfl
theorem q47 : Cond.laysFinal "GravediggerPaid$Churchyard" "GravediggerPaid$Churchyard" "figures" "[I" ∈ eT := lw_t1 47 rfl rfl
theorem q49 : Cond.laysFinal "GravediggerPaid$Churchyard" "GravediggerPaid$Churchyard" "griefs" "[I" ∈ eT := lw_t1 49 rfl rfl
theorem q51 : Cond.laysFinal "GravediggerPaid$Churchyard" "GravediggerPaid$Churchyard" "places" "[I" ∈ eT := lw_t1 51 rfl rfl
theorem q53 : Cond.lays "GravediggerPaid$Churchyard" "GravediggerPaid$Churchyard" "graves" "I" ∈ eT := lw_t1 53 rfl rfl
theorem q55 : Cond.lays "GravediggerPaid$Churchyard" "GravediggerPaid$Churchyard" "mourners" "I" ∈ eT := lw_t1 55 rfl rfl
theorem q57 : Cond.lays "GravediggerPaid$Churchyard" "GravediggerPaid$Churchyard" "day" "I" ∈ eT := lw_t1 57 rfl rfl
theorem q60 : Cond.arrayClass .int ∈ eT := lw_t1 60 rfl rfl
theorem q61 : Cond.classLink RX6 22 RX5 ∈ eT := lw_t1 61 rfl rfl
theorem q62 : Cond.instantiable RX5 4 ∈ eT := lw_t1 62 rfl rfl
theorem q63 : Cond.methodLink RX6 24 yX5_init ∈ eT := lw_t1 63 rfl rfl
theorem q64 : Cond.instanceMethod yX5_init ∈ eT := lw_t1 64 rfl rfl
theorem q65 : Cond.code yX5_init cX5_init 2 none ∈ eT := lw_t1 65 rfl rfl
theorem q66 : Cond.methodLink RX5 3 objectInit ∈ eT := lw_t1 66 rfl rfl
theorem q67 : Cond.classLink RX5 15 RX0 ∈ eT := lw_t1 67 rfl rfl
theorem q68 : Cond.methodLink RX5 17 yX0_init ∈ eT := lw_t1 68 rfl rfl
theorem q69 : Cond.fieldLink RX5 9 "GravediggerPaid$Thought" "now" "LGravediggerPaid$Churchyard;" ∈ eT := lw_t1 69 rfl rfl
theorem q70 : Cond.fieldLink RX5 18 "GravediggerPaid$Thought" "mind" "LGravediggerPaid$Churchyard;" ∈ eT := lw_t1 70 rfl rfl
theorem q71 : Cond.fieldLink RX5 21 "GravediggerPaid$Thought" "dayWeeping" "[I" ∈ eT := lw_t1 71 rfl rfl
theorem q72 : Cond.fieldLink RX5 25 "GravediggerPaid$Thought" "seed" "I" ∈ eT := lw_t1 72 rfl rfl
theorem q73 : Cond.laysFinal "GravediggerPaid$Thought" "GravediggerPaid$Thought" "now" "LGravediggerPaid$Churchyard;" ∈ eT := lw_t1 73 rfl rfl
theorem q75 : Cond.laysFinal "GravediggerPaid$Thought" "GravediggerPaid$Thought" "mind" "LGravediggerPaid$Churchyard;" ∈ eT := lw_t1 75 rfl rfl
theorem q77 : Cond.laysFinal "GravediggerPaid$Thought" "GravediggerPaid$Thought" "dayWeeping" "[I" ∈ eT := lw_t1 77 rfl rfl
theorem q79 : Cond.lays "GravediggerPaid$Thought" "GravediggerPaid$Thought" "seed" "I" ∈ eT := lw_t1 79 rfl rfl
theorem q82 : Cond.classLink RX6 31 RX3 ∈ eT := lw_t1 82 rfl rfl
theorem q83 : Cond.instantiable RX3 2 ∈ eT := lw_t1 83 rfl rfl
theorem q84 : Cond.methodLink RX6 33 yX3_init ∈ eT := lw_t1 84 rfl rfl
theorem q85 : Cond.instanceMethod yX3_init ∈ eT := lw_t1 85 rfl rfl
theorem q86 : Cond.code yX3_init cX3_init 1 none ∈ eT := lw_t1 86 rfl rfl
theorem q87 : Cond.methodLink RX3 3 objectInit ∈ eT := lw_t1 87 rfl rfl
theorem q88 : Cond.fieldLink RX3 11 "GravediggerPaid$Letters" "signs" "[I" ∈ eT := lw_t1 88 rfl rfl
theorem q89 : Cond.fieldLink RX3 15 "GravediggerPaid$Letters" "size" "I" ∈ eT := lw_t1 89 rfl rfl
theorem q90 : Cond.laysFinal "GravediggerPaid$Letters" "GravediggerPaid$Letters" "signs" "[I" ∈ eT := lw_t1 90 rfl rfl
theorem q92 : Cond.lays "GravediggerPaid$Letters" "GravediggerPaid$Letters" "size" "I" ∈ eT := lw_t1 92 rfl rfl
theorem q95 : Cond.classLink RX6 38 RX4 ∈ eT := lw_t1 95 rfl rfl
theorem q96 : Cond.instantiable RX4 4 ∈ eT := lw_t1 96 rfl rfl
theorem q97 : Cond.methodLink RX6 40 yX4_init ∈ eT := lw_t1 97 rfl rfl
theorem q98 : Cond.instanceMethod yX4_init ∈ eT := lw_t1 98 rfl rfl
theorem q99 : Cond.code yX4_init cX4_init 1 none ∈ eT := lw_t1 99 rfl rfl
theorem q100 : Cond.methodLink RX4 3 objectInit ∈ eT := lw_t1 100 rfl rfl
theorem q101 : Cond.fieldLink RX4 11 "GravediggerPaid$Seating" "weeping" "[I" ∈ eT := lw_t1 101 rfl rfl
theorem q102 : Cond.fieldLink RX4 15 "GravediggerPaid$Seating" "digits" "[I" ∈ eT := lw_t1 102 rfl rfl
theorem q103 : Cond.fieldLink RX4 18 "GravediggerPaid$Seating" "worth" "[I" ∈ eT := lw_t1 103 rfl rfl
theorem q104 : Cond.fieldLink RX4 21 "GravediggerPaid$Seating" "best" "I" ∈ eT := lw_t1 104 rfl rfl
theorem q105 : Cond.laysFinal "GravediggerPaid$Seating" "GravediggerPaid$Seating" "weeping" "[I" ∈ eT := lw_t1 105 rfl rfl
theorem q107 : Cond.laysFinal "GravediggerPaid$Seating" "GravediggerPaid$Seating" "digits" "[I" ∈ eT := lw_t1 107 rfl rfl
theorem q109 : Cond.laysFinal "GravediggerPaid$Seating" "GravediggerPaid$Seating" "worth" "[I" ∈ eT := lw_t1 109 rfl rfl
theorem q111 : Cond.lays "GravediggerPaid$Seating" "GravediggerPaid$Seating" "best" "I" ∈ eT := lw_t1 111 rfl rfl
theorem q114 : Cond.fieldLink RX6 10 "GravediggerPaid" "now" "LGravediggerPaid$Churchyard;" ∈ eT := lw_t1 114 rfl rfl
theorem q115 : Cond.fieldLink RX6 16 "GravediggerPaid" "draft" "LGravediggerPaid$Churchyard;" ∈ eT := lw_t1 115 rfl rfl
theorem q116 : Cond.fieldLink RX6 19 "GravediggerPaid" "picture" "LGravediggerPaid$Churchyard;" ∈ eT := lw_t1 116 rfl rfl
theorem q117 : Cond.fieldLink RX6 27 "GravediggerPaid" "thought" "LGravediggerPaid$Thought;" ∈ eT := lw_t1 117 rfl rfl
theorem q118 : Cond.fieldLink RX6 34 "GravediggerPaid" "letters" "LGravediggerPaid$Letters;" ∈ eT := lw_t1 118 rfl rfl
theorem q119 : Cond.fieldLink RX6 41 "GravediggerPaid" "seating" "LGravediggerPaid$Seating;" ∈ eT := lw_t1 119 rfl rfl
theorem q120 : Cond.fieldLink RX6 45 "GravediggerPaid" "numbers" "[I" ∈ eT := lw_t1 120 rfl rfl
theorem q121 : Cond.fieldLink RX6 49 "GravediggerPaid" "refusals" "[I" ∈ eT := lw_t1 121 rfl rfl
theorem q122 : Cond.fieldLink RX6 52 "GravediggerPaid" "numbersSize" "I" ∈ eT := lw_t1 122 rfl rfl
theorem q123 : Cond.fieldLink RX6 56 "GravediggerPaid" "pictureTaken" "Z" ∈ eT := lw_t1 123 rfl rfl
theorem q124 : Cond.laysFinal "GravediggerPaid" "GravediggerPaid" "now" "LGravediggerPaid$Churchyard;" ∈ eT := lw_t1 124 rfl rfl
theorem q126 : Cond.laysFinal "GravediggerPaid" "GravediggerPaid" "draft" "LGravediggerPaid$Churchyard;" ∈ eT := lw_t1 126 rfl rfl
theorem q128 : Cond.laysFinal "GravediggerPaid" "GravediggerPaid" "picture" "LGravediggerPaid$Churchyard;" ∈ eT := lw_t1 128 rfl rfl
theorem q130 : Cond.laysFinal "GravediggerPaid" "GravediggerPaid" "thought" "LGravediggerPaid$Thought;" ∈ eT := lw_t1 130 rfl rfl
theorem q132 : Cond.laysFinal "GravediggerPaid" "GravediggerPaid" "letters" "LGravediggerPaid$Letters;" ∈ eT := lw_t1 132 rfl rfl
theorem q134 : Cond.laysFinal "GravediggerPaid" "GravediggerPaid" "seating" "LGravediggerPaid$Seating;" ∈ eT := lw_t1 134 rfl rfl
theorem q136 : Cond.laysFinal "GravediggerPaid" "GravediggerPaid" "numbers" "[I" ∈ eT := lw_t1 136 rfl rfl
theorem q138 : Cond.laysFinal "GravediggerPaid" "GravediggerPaid" "refusals" "[I" ∈ eT := lw_t1 138 rfl rfl
theorem q140 : Cond.lays "GravediggerPaid" "GravediggerPaid" "numbersSize" "I" ∈ eT := lw_t1 140 rfl rfl
theorem q142 : Cond.lays "GravediggerPaid" "GravediggerPaid" "pictureTaken" "Z" ∈ eT := lw_t1 142 rfl rfl
theorem q145 : Cond.methodLink RL 13 yX6_letter ∈ eT := lw_t1 145 rfl rfl
theorem q146 : Cond.instanceMethod yX6_letter ∈ eT := lw_t1 146 rfl rfl
theorem q147 : Cond.selects RX6 yX6_letter yX6_letter ∈ eT := lw_t1 147 rfl rfl
theorem q148 : Cond.code yX6_letter cX6_letter 2 (some .int) ∈ eT := lw_t1 148 rfl rfl
theorem q149 : Cond.methodLink RX6 60 yX6_refuse ∈ eT := lw_t1 149 rfl rfl
theorem q151 : Cond.instanceMethod yX6_refuse ∈ eT := lw_t1 151 rfl rfl
theorem q152 : Cond.code yX6_refuse cX6_refuse 3 (some .int) ∈ eT := lw_t1 152 rfl rfl
theorem q153 : Cond.methodLink RX6 64 yX3_isFull ∈ eT := lw_t1 153 rfl rfl
theorem q154 : Cond.instanceMethod yX3_isFull ∈ eT := lw_t1 154 rfl rfl
theorem q155 : Cond.selects RX3 yX3_isFull yX3_isFull ∈ eT := lw_t1 155 rfl rfl
theorem q156 : Cond.code yX3_isFull cX3_isFull 1 (some .boolean) ∈ eT := lw_t1 156 rfl rfl
theorem q157 : Cond.methodLink RX6 68 yX3_add ∈ eT := lw_t1 157 rfl rfl
theorem q158 : Cond.instanceMethod yX3_add ∈ eT := lw_t1 158 rfl rfl
theorem q159 : Cond.selects RX3 yX3_add yX3_add ∈ eT := lw_t1 159 rfl rfl
theorem q160 : Cond.code yX3_add cX3_add 2 (some .int) ∈ eT := lw_t1 160 rfl rfl
theorem q161 : Cond.methodLink RX3 19 yX3_isFull ∈ eT := lw_t1 161 rfl rfl
theorem q162 : Cond.methodLink RL 18 yX6_yard ∈ eT := lw_t1 162 rfl rfl
theorem q163 : Cond.instanceMethod yX6_yard ∈ eT := lw_t1 163 rfl rfl
theorem q164 : Cond.selects RX6 yX6_yard yX6_yard ∈ eT := lw_t1 164 rfl rfl
theorem q165 : Cond.code yX6_yard cX6_yard 2 (some .int) ∈ eT := lw_t1 165 rfl rfl
theorem q166 : Cond.methodLink RX6 71 yX0_become ∈ eT := lw_t1 166 rfl rfl
theorem q167 : Cond.instanceMethod yX0_become ∈ eT := lw_t1 167 rfl rfl
theorem q168 : Cond.selects RX0 yX0_become yX0_become ∈ eT := lw_t1 168 rfl rfl
theorem q169 : Cond.code yX0_become cX0_become 3 none ∈ eT := lw_t1 169 rfl rfl
theorem q170 : Cond.methodLink RX6 74 yX3_tellTo ∈ eT := lw_t1 170 rfl rfl
theorem q171 : Cond.instanceMethod yX3_tellTo ∈ eT := lw_t1 171 rfl rfl
theorem q172 : Cond.selects RX3 yX3_tellTo yX3_tellTo ∈ eT := lw_t1 172 rfl rfl
theorem q173 : Cond.code yX3_tellTo cX3_tellTo 5 (some .int) ∈ eT := lw_t1 173 rfl rfl
theorem q174 : Cond.methodLink RX3 23 yX3_firstMisfit ∈ eT := lw_t1 174 rfl rfl
theorem q176 : Cond.instanceMethod yX3_firstMisfit ∈ eT := lw_t1 176 rfl rfl
theorem q177 : Cond.code yX3_firstMisfit cX3_firstMisfit 4 (some .int) ∈ eT := lw_t1 177 rfl rfl
theorem q178 : Cond.methodLink RX3 31 yX3_signAt ∈ eT := lw_t1 178 rfl rfl
theorem q180 : Cond.instanceMethod yX3_signAt ∈ eT := lw_t1 180 rfl rfl
theorem q181 : Cond.code yX3_signAt cX3_signAt 2 (some .int) ∈ eT := lw_t1 181 rfl rfl
theorem q182 : Cond.methodLink RX3 35 yX3_lengthOf ∈ eT := lw_t1 182 rfl rfl
theorem q183 : Cond.static yX3_lengthOf ∈ eT := lw_t1 183 rfl rfl
theorem q184 : Cond.code yX3_lengthOf cX3_lengthOf 1 (some .int) ∈ eT := lw_t1 184 rfl rfl
theorem q185 : Cond.methodLink RX3 50 yX3_fitsInside ∈ eT := lw_t1 185 rfl rfl
theorem q187 : Cond.instanceMethod yX3_fitsInside ∈ eT := lw_t1 187 rfl rfl
theorem q188 : Cond.code yX3_fitsInside cX3_fitsInside 5 (some .boolean) ∈ eT := lw_t1 188 rfl rfl
theorem q189 : Cond.methodLink RX3 54 yX2_ofLetter ∈ eT := lw_t1 189 rfl rfl
theorem q190 : Cond.static yX2_ofLetter ∈ eT := lw_t1 190 rfl rfl
theorem q191 : Cond.code yX2_ofLetter cX2_ofLetter 1 (some .int) ∈ eT := lw_t1 191 rfl rfl
theorem q192 : Cond.methodLink RX3 38 Lib.Math.max.name ∈ eT := lw_t1 192 rfl rfl
theorem q193 : Cond.static Lib.Math.max.name ∈ eT := lw_t1 193 rfl rfl
theorem q194 : Cond.code Lib.Math.max.name Lib.Math.max.code 2 (some .int) ∈ eT := lw_t1 194 rfl rfl
theorem q195 : Cond.methodLink RX3 27 yX3_statementComes ∈ eT := lw_t1 195 rfl rfl
theorem q197 : Cond.instanceMethod yX3_statementComes ∈ eT := lw_t1 197 rfl rfl
theorem q198 : Cond.code yX3_statementComes cX3_statementComes 6 (some .boolean) ∈ eT := lw_t1 198 rfl rfl
theorem q199 : Cond.methodLink RX3 47 yX3_digitAt ∈ eT := lw_t1 199 rfl rfl
theorem q201 : Cond.instanceMethod yX3_digitAt ∈ eT := lw_t1 201 rfl rfl
theorem q202 : Cond.code yX3_digitAt cX3_digitAt 2 (some .int) ∈ eT := lw_t1 202 rfl rfl
theorem q203 : Cond.methodLink RX3 44 Lib.Math.min.name ∈ eT := lw_t1 203 rfl rfl
theorem q204 : Cond.static Lib.Math.min.name ∈ eT := lw_t1 204 rfl rfl
theorem q205 : Cond.code Lib.Math.min.name Lib.Math.min.code 2 (some .int) ∈ eT := lw_t1 205 rfl rfl
theorem q206 : Cond.methodLink RX3 59 yX0_addGrave ∈ eT := lw_t1 206 rfl rfl
theorem q207 : Cond.instanceMethod yX0_addGrave ∈ eT := lw_t1 207 rfl rfl
theorem q208 : Cond.selects RX0 yX0_addGrave yX0_addGrave ∈ eT := lw_t1 208 rfl rfl
theorem q209 : Cond.code yX0_addGrave cX0_addGrave 2 (some .boolean) ∈ eT := lw_t1 209 rfl rfl
theorem q210 : Cond.methodLink RX3 65 yX3_twoDigitsAt ∈ eT := lw_t1 210 rfl rfl
theorem q212 : Cond.instanceMethod yX3_twoDigitsAt ∈ eT := lw_t1 212 rfl rfl
theorem q213 : Cond.code yX3_twoDigitsAt cX3_twoDigitsAt 2 (some .int) ∈ eT := lw_t1 213 rfl rfl
theorem q214 : Cond.methodLink RX3 68 yX0_addMourner ∈ eT := lw_t1 214 rfl rfl
theorem q215 : Cond.instanceMethod yX0_addMourner ∈ eT := lw_t1 215 rfl rfl
theorem q216 : Cond.selects RX0 yX0_addMourner yX0_addMourner ∈ eT := lw_t1 216 rfl rfl
theorem q217 : Cond.code yX0_addMourner cX0_addMourner 4 (some .boolean) ∈ eT := lw_t1 217 rfl rfl
theorem q218 : Cond.methodLink RX3 71 yX3_mournerComesTo ∈ eT := lw_t1 218 rfl rfl
theorem q219 : Cond.static yX3_mournerComesTo ∈ eT := lw_t1 219 rfl rfl
theorem q220 : Cond.code yX3_mournerComesTo cX3_mournerComesTo 3 (some .boolean) ∈ eT := lw_t1 220 rfl rfl
theorem q221 : Cond.methodLink RX3 79 yX0_hasMourner ∈ eT := lw_t1 221 rfl rfl
theorem q222 : Cond.instanceMethod yX0_hasMourner ∈ eT := lw_t1 222 rfl rfl
theorem q223 : Cond.selects RX0 yX0_hasMourner yX0_hasMourner ∈ eT := lw_t1 223 rfl rfl
theorem q224 : Cond.code yX0_hasMourner cX0_hasMourner 2 (some .boolean) ∈ eT := lw_t1 224 rfl rfl
theorem q225 : Cond.methodLink RX3 89 yX0_hasGrave ∈ eT := lw_t1 225 rfl rfl
theorem q226 : Cond.instanceMethod yX0_hasGrave ∈ eT := lw_t1 226 rfl rfl
theorem q227 : Cond.selects RX0 yX0_hasGrave yX0_hasGrave ∈ eT := lw_t1 227 rfl rfl
theorem q228 : Cond.code yX0_hasGrave cX0_hasGrave 2 (some .boolean) ∈ eT := lw_t1 228 rfl rfl
theorem q229 : Cond.methodLink RX3 75 yX0_place ∈ eT := lw_t1 229 rfl rfl
theorem q230 : Cond.instanceMethod yX0_place ∈ eT := lw_t1 230 rfl rfl
theorem q231 : Cond.selects RX0 yX0_place yX0_place ∈ eT := lw_t1 231 rfl rfl
theorem q232 : Cond.code yX0_place cX0_place 3 none ∈ eT := lw_t1 232 rfl rfl
theorem q233 : Cond.methodLink RX0 50 yX0_hasMourner ∈ eT := lw_t1 233 rfl rfl
theorem q234 : Cond.methodLink RX3 82 yX0_inform ∈ eT := lw_t1 234 rfl rfl
theorem q235 : Cond.instanceMethod yX0_inform ∈ eT := lw_t1 235 rfl rfl
theorem q236 : Cond.selects RX0 yX0_inform yX0_inform ∈ eT := lw_t1 236 rfl rfl
theorem q237 : Cond.code yX0_inform cX0_inform 2 none ∈ eT := lw_t1 237 rfl rfl
theorem q238 : Cond.methodLink RX0 53 yX0_griefOf ∈ eT := lw_t1 238 rfl rfl
theorem q239 : Cond.instanceMethod yX0_griefOf ∈ eT := lw_t1 239 rfl rfl
theorem q240 : Cond.selects RX0 yX0_griefOf yX0_griefOf ∈ eT := lw_t2 0 rfl rfl
theorem q241 : Cond.code yX0_griefOf cX0_griefOf 2 (some .int) ∈ eT := lw_t2 1 rfl rfl
theorem q242 : Cond.methodLink RX0 57 yX0_kindOf ∈ eT := lw_t2 2 rfl rfl
theorem q243 : Cond.instanceMethod yX0_kindOf ∈ eT := lw_t2 3 rfl rfl
theorem q244 : Cond.selects RX0 yX0_kindOf yX0_kindOf ∈ eT := lw_t2 4 rfl rfl
theorem q245 : Cond.code yX0_kindOf cX0_kindOf 2 (some .int) ∈ eT := lw_t2 5 rfl rfl
theorem q246 : Cond.methodLink RX0 60 yX2_shock ∈ eT := lw_t2 6 rfl rfl
theorem q247 : Cond.static yX2_shock ∈ eT := lw_t2 7 rfl rfl
theorem q248 : Cond.code yX2_shock cX2_shock 1 (some .int) ∈ eT := lw_t2 8 rfl rfl
theorem q249 : Cond.methodLink RX0 65 Lib.Math.min.name ∈ eT := lw_t2 9 rfl rfl
theorem q250 : Cond.methodLink RX0 71 yX0_setGrief ∈ eT := lw_t2 10 rfl rfl
theorem q251 : Cond.instanceMethod yX0_setGrief ∈ eT := lw_t2 11 rfl rfl
theorem q252 : Cond.selects RX0 yX0_setGrief yX0_setGrief ∈ eT := lw_t2 12 rfl rfl
theorem q253 : Cond.code yX0_setGrief cX0_setGrief 3 none ∈ eT := lw_t2 13 rfl rfl
theorem q254 : Cond.methodLink RX3 86 yX0_setHardness ∈ eT := lw_t2 14 rfl rfl
theorem q255 : Cond.instanceMethod yX0_setHardness ∈ eT := lw_t2 15 rfl rfl
theorem q256 : Cond.selects RX0 yX0_setHardness yX0_setHardness ∈ eT := lw_t2 16 rfl rfl
theorem q257 : Cond.code yX0_setHardness cX0_setHardness 3 none ∈ eT := lw_t2 17 rfl rfl
theorem q258 : Cond.methodLink RX0 46 yX0_hasGrave ∈ eT := lw_t2 18 rfl rfl
theorem q259 : Cond.methodLink RX3 92 yX3_daysGoBy ∈ eT := lw_t2 19 rfl rfl
theorem q260 : Cond.static yX3_daysGoBy ∈ eT := lw_t2 20 rfl rfl
theorem q261 : Cond.code yX3_daysGoBy cX3_daysGoBy 2 (some .boolean) ∈ eT := lw_t2 21 rfl rfl
theorem q262 : Cond.methodLink RX3 95 yX0_today ∈ eT := lw_t2 22 rfl rfl
theorem q263 : Cond.instanceMethod yX0_today ∈ eT := lw_t2 23 rfl rfl
theorem q264 : Cond.selects RX0 yX0_today yX0_today ∈ eT := lw_t2 24 rfl rfl
theorem q265 : Cond.code yX0_today cX0_today 1 (some .int) ∈ eT := lw_t2 25 rfl rfl
theorem q266 : Cond.methodLink RX3 98 yX0_passDays ∈ eT := lw_t2 26 rfl rfl
theorem q267 : Cond.instanceMethod yX0_passDays ∈ eT := lw_t2 27 rfl rfl
theorem q268 : Cond.selects RX0 yX0_passDays yX0_passDays ∈ eT := lw_t2 28 rfl rfl
theorem q269 : Cond.code yX0_passDays cX0_passDays 3 none ∈ eT := lw_t2 29 rfl rfl
theorem q270 : Cond.methodLink RX0 100 yX0_passDay ∈ eT := lw_t2 30 rfl rfl
theorem q271 : Cond.instanceMethod yX0_passDay ∈ eT := lw_t2 31 rfl rfl
theorem q272 : Cond.selects RX0 yX0_passDay yX0_passDay ∈ eT := lw_t2 32 rfl rfl
theorem q273 : Cond.code yX0_passDay cX0_passDay 2 none ∈ eT := lw_t2 33 rfl rfl
theorem q274 : Cond.methodLink RX0 78 yX2_weeping ∈ eT := lw_t2 34 rfl rfl
theorem q275 : Cond.static yX2_weeping ∈ eT := lw_t2 35 rfl rfl
theorem q276 : Cond.code yX2_weeping cX2_weeping 3 (some .int) ∈ eT := lw_t2 36 rfl rfl
theorem q277 : Cond.methodLink RX0 94 yX0_soak ∈ eT := lw_t2 37 rfl rfl
theorem q278 : Cond.instanceMethod yX0_soak ∈ eT := lw_t2 38 rfl rfl
theorem q279 : Cond.selects RX0 yX0_soak yX0_soak ∈ eT := lw_t2 39 rfl rfl
theorem q280 : Cond.code yX0_soak cX0_soak 5 none ∈ eT := lw_t2 40 rfl rfl
theorem q281 : Cond.methodLink RX0 88 Lib.Math.max.name ∈ eT := lw_t2 41 rfl rfl
theorem q282 : Cond.methodLink RX0 97 yX0_fade ∈ eT := lw_t2 42 rfl rfl
theorem q283 : Cond.instanceMethod yX0_fade ∈ eT := lw_t2 43 rfl rfl
theorem q284 : Cond.selects RX0 yX0_fade yX0_fade ∈ eT := lw_t2 44 rfl rfl
theorem q285 : Cond.code yX0_fade cX0_fade 2 none ∈ eT := lw_t2 45 rfl rfl
theorem q286 : Cond.methodLink RX0 91 yX2_fading ∈ eT := lw_t2 46 rfl rfl
theorem q287 : Cond.static yX2_fading ∈ eT := lw_t2 47 rfl rfl
theorem q288 : Cond.code yX2_fading cX2_fading 1 (some .int) ∈ eT := lw_t2 48 rfl rfl
theorem q289 : Cond.methodLink RX6 78 yX3_forget ∈ eT := lw_t2 49 rfl rfl
theorem q290 : Cond.instanceMethod yX3_forget ∈ eT := lw_t2 50 rfl rfl
theorem q291 : Cond.selects RX3 yX3_forget yX3_forget ∈ eT := lw_t2 51 rfl rfl
theorem q292 : Cond.code yX3_forget cX3_forget 1 none ∈ eT := lw_t2 52 rfl rfl
theorem q293 : Cond.methodLink RL 23 yX6_grave ∈ eT := lw_t2 53 rfl rfl
theorem q294 : Cond.instanceMethod yX6_grave ∈ eT := lw_t2 54 rfl rfl
theorem q295 : Cond.selects RX6 yX6_grave yX6_grave ∈ eT := lw_t2 55 rfl rfl
theorem q296 : Cond.code yX6_grave cX6_grave 3 (some .int) ∈ eT := lw_t2 56 rfl rfl
theorem q297 : Cond.methodLink RX6 81 yX0_hasGrave ∈ eT := lw_t2 57 rfl rfl
theorem q298 : Cond.methodLink RX6 85 yX0_hardness ∈ eT := lw_t2 58 rfl rfl
theorem q299 : Cond.instanceMethod yX0_hardness ∈ eT := lw_t2 59 rfl rfl
theorem q300 : Cond.selects RX0 yX0_hardness yX0_hardness ∈ eT := lw_t2 60 rfl rfl
theorem q301 : Cond.code yX0_hardness cX0_hardness 2 (some .int) ∈ eT := lw_t2 61 rfl rfl
theorem q302 : Cond.methodLink RX6 88 yX0_depth ∈ eT := lw_t2 62 rfl rfl
theorem q303 : Cond.instanceMethod yX0_depth ∈ eT := lw_t2 63 rfl rfl
theorem q304 : Cond.selects RX0 yX0_depth yX0_depth ∈ eT := lw_t2 64 rfl rfl
theorem q305 : Cond.code yX0_depth cX0_depth 2 (some .int) ∈ eT := lw_t2 65 rfl rfl
theorem q306 : Cond.methodLink RX6 91 yX0_wetness ∈ eT := lw_t2 66 rfl rfl
theorem q307 : Cond.instanceMethod yX0_wetness ∈ eT := lw_t2 67 rfl rfl
theorem q308 : Cond.selects RX0 yX0_wetness yX0_wetness ∈ eT := lw_t2 68 rfl rfl
theorem q309 : Cond.code yX0_wetness cX0_wetness 2 (some .int) ∈ eT := lw_t2 69 rfl rfl
theorem q310 : Cond.methodLink RX6 94 yX0_payOf ∈ eT := lw_t2 70 rfl rfl
theorem q311 : Cond.instanceMethod yX0_payOf ∈ eT := lw_t2 71 rfl rfl
theorem q312 : Cond.selects RX0 yX0_payOf yX0_payOf ∈ eT := lw_t2 72 rfl rfl
theorem q313 : Cond.code yX0_payOf cX0_payOf 2 (some .int) ∈ eT := lw_t2 73 rfl rfl
theorem q314 : Cond.methodLink RX0 103 yX0_depth ∈ eT := lw_t2 74 rfl rfl
theorem q315 : Cond.methodLink RX6 97 yX0_weepingAt ∈ eT := lw_t2 75 rfl rfl
theorem q316 : Cond.instanceMethod yX0_weepingAt ∈ eT := lw_t2 76 rfl rfl
theorem q317 : Cond.selects RX0 yX0_weepingAt yX0_weepingAt ∈ eT := lw_t2 77 rfl rfl
theorem q318 : Cond.code yX0_weepingAt cX0_weepingAt 4 (some .int) ∈ eT := lw_t2 78 rfl rfl
theorem q319 : Cond.methodLink RX0 82 yX0_weeps ∈ eT := lw_t2 79 rfl rfl
theorem q320 : Cond.instanceMethod yX0_weeps ∈ eT := lw_t2 80 rfl rfl
theorem q321 : Cond.selects RX0 yX0_weeps yX0_weeps ∈ eT := lw_t2 81 rfl rfl
theorem q322 : Cond.code yX0_weeps cX0_weeps 2 (some .int) ∈ eT := lw_t2 82 rfl rfl
theorem q323 : Cond.methodLink RX0 75 yX0_figureOf ∈ eT := lw_t2 83 rfl rfl
theorem q324 : Cond.instanceMethod yX0_figureOf ∈ eT := lw_t2 84 rfl rfl
theorem q325 : Cond.selects RX0 yX0_figureOf yX0_figureOf ∈ eT := lw_t2 85 rfl rfl
theorem q326 : Cond.code yX0_figureOf cX0_figureOf 2 (some .int) ∈ eT := lw_t2 86 rfl rfl
theorem q327 : Cond.methodLink RX6 100 yX0_daysToFoot ∈ eT := lw_t2 87 rfl rfl
theorem q328 : Cond.instanceMethod yX0_daysToFoot ∈ eT := lw_t2 88 rfl rfl
theorem q329 : Cond.selects RX0 yX0_daysToFoot yX0_daysToFoot ∈ eT := lw_t2 89 rfl rfl
theorem q330 : Cond.code yX0_daysToFoot cX0_daysToFoot 6 (some .int) ∈ eT := lw_t2 90 rfl rfl
theorem q331 : Cond.methodLink RX0 106 yX0_payOf ∈ eT := lw_t2 91 rfl rfl
theorem q332 : Cond.methodLink RX0 109 yX0_mournersAt ∈ eT := lw_t2 92 rfl rfl
theorem q333 : Cond.instanceMethod yX0_mournersAt ∈ eT := lw_t2 93 rfl rfl
theorem q334 : Cond.selects RX0 yX0_mournersAt yX0_mournersAt ∈ eT := lw_t2 94 rfl rfl
theorem q335 : Cond.code yX0_mournersAt cX0_mournersAt 4 (some .int) ∈ eT := lw_t2 95 rfl rfl
theorem q336 : Cond.methodLink RX0 112 yX0_weepingAt ∈ eT := lw_t2 96 rfl rfl
theorem q337 : Cond.methodLink RX0 115 yX0_weepingForInch ∈ eT := lw_t2 97 rfl rfl
theorem q338 : Cond.instanceMethod yX0_weepingForInch ∈ eT := lw_t2 98 rfl rfl
theorem q339 : Cond.selects RX0 yX0_weepingForInch yX0_weepingForInch ∈ eT := lw_t2 99 rfl rfl
theorem q340 : Cond.code yX0_weepingForInch cX0_weepingForInch 2 (some .int) ∈ eT := lw_t2 100 rfl rfl
theorem q341 : Cond.methodLink RX0 85 yX0_hardness ∈ eT := lw_t2 101 rfl rfl
theorem q342 : Cond.methodLink RX0 118 yX0_wetness ∈ eT := lw_t2 102 rfl rfl
theorem q343 : Cond.methodLink RL 28 yX6_mourner ∈ eT := lw_t2 103 rfl rfl
theorem q344 : Cond.instanceMethod yX6_mourner ∈ eT := lw_t2 104 rfl rfl
theorem q345 : Cond.selects RX6 yX6_mourner yX6_mourner ∈ eT := lw_t2 105 rfl rfl
theorem q346 : Cond.code yX6_mourner cX6_mourner 3 (some .int) ∈ eT := lw_t2 106 rfl rfl
theorem q347 : Cond.methodLink RX6 103 yX0_hasMourner ∈ eT := lw_t2 107 rfl rfl
theorem q348 : Cond.methodLink RX6 106 yX0_kindOf ∈ eT := lw_t2 108 rfl rfl
theorem q349 : Cond.methodLink RX6 109 yX0_figureOf ∈ eT := lw_t2 109 rfl rfl
theorem q350 : Cond.methodLink RX6 112 yX0_griefOf ∈ eT := lw_t2 110 rfl rfl
theorem q351 : Cond.methodLink RX6 115 yX0_placeOf ∈ eT := lw_t2 111 rfl rfl
theorem q352 : Cond.instanceMethod yX0_placeOf ∈ eT := lw_t2 112 rfl rfl
theorem q353 : Cond.selects RX0 yX0_placeOf yX0_placeOf ∈ eT := lw_t2 113 rfl rfl
theorem q354 : Cond.code yX0_placeOf cX0_placeOf 2 (some .int) ∈ eT := lw_t2 114 rfl rfl
theorem q355 : Cond.methodLink RX6 118 yX0_weeps ∈ eT := lw_t2 115 rfl rfl
theorem q356 : Cond.methodLink RL 32 yX6_goes ∈ eT := lw_t2 116 rfl rfl
theorem q357 : Cond.instanceMethod yX6_goes ∈ eT := lw_t2 117 rfl rfl
theorem q358 : Cond.selects RX6 yX6_goes yX6_goes ∈ eT := lw_t2 118 rfl rfl
theorem q359 : Cond.code yX6_goes cX6_goes 4 (some .int) ∈ eT := lw_t2 119 rfl rfl
theorem q360 : Cond.methodLink RX6 121 yX0_place ∈ eT := lw_t2 120 rfl rfl
theorem q361 : Cond.methodLink RL 36 yX6_leaves ∈ eT := lw_t2 121 rfl rfl
theorem q362 : Cond.instanceMethod yX6_leaves ∈ eT := lw_t2 122 rfl rfl
theorem q363 : Cond.selects RX6 yX6_leaves yX6_leaves ∈ eT := lw_t2 123 rfl rfl
theorem q364 : Cond.code yX6_leaves cX6_leaves 3 (some .int) ∈ eT := lw_t2 124 rfl rfl
theorem q365 : Cond.methodLink RL 40 yX6_hears ∈ eT := lw_t2 125 rfl rfl
theorem q366 : Cond.instanceMethod yX6_hears ∈ eT := lw_t2 126 rfl rfl
theorem q367 : Cond.selects RX6 yX6_hears yX6_hears ∈ eT := lw_t2 127 rfl rfl
theorem q368 : Cond.code yX6_hears cX6_hears 2 (some .int) ∈ eT := lw_t2 128 rfl rfl
theorem q369 : Cond.methodLink RX6 125 yX0_inform ∈ eT := lw_t2 129 rfl rfl
theorem q370 : Cond.methodLink RL 44 yX6_grieves ∈ eT := lw_t2 130 rfl rfl
theorem q371 : Cond.instanceMethod yX6_grieves ∈ eT := lw_t2 131 rfl rfl
theorem q372 : Cond.selects RX6 yX6_grieves yX6_grieves ∈ eT := lw_t2 132 rfl rfl
theorem q373 : Cond.code yX6_grieves cX6_grieves 5 (some .int) ∈ eT := lw_t2 133 rfl rfl
theorem q374 : Cond.methodLink RX6 129 yX6_faultOfRange ∈ eT := lw_t2 134 rfl rfl
theorem q375 : Cond.static yX6_faultOfRange ∈ eT := lw_t2 135 rfl rfl
theorem q376 : Cond.code yX6_faultOfRange cX6_faultOfRange 3 (some .int) ∈ eT := lw_t2 136 rfl rfl
theorem q377 : Cond.methodLink RX6 133 yX0_setGrief ∈ eT := lw_t2 137 rfl rfl
theorem q378 : Cond.methodLink RL 48 yX6_hardens ∈ eT := lw_t2 138 rfl rfl
theorem q379 : Cond.instanceMethod yX6_hardens ∈ eT := lw_t2 139 rfl rfl
theorem q380 : Cond.selects RX6 yX6_hardens yX6_hardens ∈ eT := lw_t2 140 rfl rfl
theorem q381 : Cond.code yX6_hardens cX6_hardens 5 (some .int) ∈ eT := lw_t2 141 rfl rfl
theorem q382 : Cond.methodLink RX6 136 yX0_setHardness ∈ eT := lw_t2 142 rfl rfl
theorem q383 : Cond.methodLink RL 52 yX6_turn ∈ eT := lw_t2 143 rfl rfl
theorem q384 : Cond.instanceMethod yX6_turn ∈ eT := lw_t2 144 rfl rfl
theorem q385 : Cond.selects RX6 yX6_turn yX6_turn ∈ eT := lw_t2 145 rfl rfl
theorem q386 : Cond.code yX6_turn cX6_turn 6 (some .int) ∈ eT := lw_t2 146 rfl rfl
theorem q387 : Cond.methodLink RX6 141 yX0_setKind ∈ eT := lw_t2 147 rfl rfl
theorem q388 : Cond.instanceMethod yX0_setKind ∈ eT := lw_t2 148 rfl rfl
theorem q389 : Cond.selects RX0 yX0_setKind yX0_setKind ∈ eT := lw_t2 149 rfl rfl
theorem q390 : Cond.code yX0_setKind cX0_setKind 3 none ∈ eT := lw_t2 150 rfl rfl
theorem q391 : Cond.methodLink RX6 144 yX0_setFigure ∈ eT := lw_t2 151 rfl rfl
theorem q392 : Cond.instanceMethod yX0_setFigure ∈ eT := lw_t2 152 rfl rfl
theorem q393 : Cond.selects RX0 yX0_setFigure yX0_setFigure ∈ eT := lw_t2 153 rfl rfl
theorem q394 : Cond.code yX0_setFigure cX0_setFigure 3 none ∈ eT := lw_t2 154 rfl rfl
theorem q395 : Cond.methodLink RL 57 yX6_days ∈ eT := lw_t2 155 rfl rfl
theorem q396 : Cond.instanceMethod yX6_days ∈ eT := lw_t2 156 rfl rfl
theorem q397 : Cond.selects RX6 yX6_days yX6_days ∈ eT := lw_t2 157 rfl rfl
theorem q398 : Cond.code yX6_days cX6_days 3 (some .int) ∈ eT := lw_t2 158 rfl rfl
theorem q399 : Cond.methodLink RX6 147 yX0_today ∈ eT := lw_t2 159 rfl rfl
theorem q400 : Cond.methodLink RX6 151 yX0_passDays ∈ eT := lw_t2 160 rfl rfl
theorem q401 : Cond.methodLink RX6 154 yX0_allPay ∈ eT := lw_t2 161 rfl rfl
theorem q402 : Cond.instanceMethod yX0_allPay ∈ eT := lw_t2 162 rfl rfl
theorem q403 : Cond.selects RX0 yX0_allPay yX0_allPay ∈ eT := lw_t2 163 rfl rfl
theorem q404 : Cond.code yX0_allPay cX0_allPay 3 (some .int) ∈ eT := lw_t2 164 rfl rfl
theorem q405 : Cond.methodLink RL 61 yX6_graveThen ∈ eT := lw_t2 165 rfl rfl
theorem q406 : Cond.instanceMethod yX6_graveThen ∈ eT := lw_t2 166 rfl rfl
theorem q407 : Cond.selects RX6 yX6_graveThen yX6_graveThen ∈ eT := lw_t2 167 rfl rfl
theorem q408 : Cond.code yX6_graveThen cX6_graveThen 6 (some .int) ∈ eT := lw_t2 168 rfl rfl
theorem q409 : Cond.methodLink RX6 157 yX5_after ∈ eT := lw_t2 169 rfl rfl
theorem q410 : Cond.instanceMethod yX5_after ∈ eT := lw_t2 170 rfl rfl
theorem q411 : Cond.selects RX5 yX5_after yX5_after ∈ eT := lw_t2 171 rfl rfl
theorem q412 : Cond.code yX5_after cX5_after 2 (some (.object "GravediggerPaid$Churchyard")) ∈ eT := lw_t2 172 rfl rfl
theorem q413 : Cond.methodLink RX5 29 yX0_become ∈ eT := lw_t2 173 rfl rfl
theorem q414 : Cond.methodLink RX5 33 yX0_passDays ∈ eT := lw_t2 174 rfl rfl
theorem q415 : Cond.methodLink RL 65 yX6_griefThen ∈ eT := lw_t2 175 rfl rfl
theorem q416 : Cond.instanceMethod yX6_griefThen ∈ eT := lw_t2 176 rfl rfl
theorem q417 : Cond.selects RX6 yX6_griefThen yX6_griefThen ∈ eT := lw_t2 177 rfl rfl
theorem q418 : Cond.code yX6_griefThen cX6_griefThen 4 (some .int) ∈ eT := lw_t2 178 rfl rfl
theorem q419 : Cond.methodLink RL 69 yX6_payThen ∈ eT := lw_t2 179 rfl rfl
theorem q420 : Cond.instanceMethod yX6_payThen ∈ eT := lw_t2 180 rfl rfl
theorem q421 : Cond.selects RX6 yX6_payThen yX6_payThen ∈ eT := lw_t2 181 rfl rfl
theorem q422 : Cond.code yX6_payThen cX6_payThen 3 (some .int) ∈ eT := lw_t2 182 rfl rfl
theorem q423 : Cond.methodLink RL 73 yX6_deep ∈ eT := lw_t2 183 rfl rfl
theorem q424 : Cond.instanceMethod yX6_deep ∈ eT := lw_t2 184 rfl rfl
theorem q425 : Cond.selects RX6 yX6_deep yX6_deep ∈ eT := lw_t2 185 rfl rfl
theorem q426 : Cond.code yX6_deep cX6_deep 4 (some .int) ∈ eT := lw_t2 186 rfl rfl
theorem q427 : Cond.methodLink RX6 161 yX5_daysTillDeep ∈ eT := lw_t2 187 rfl rfl
theorem q428 : Cond.instanceMethod yX5_daysTillDeep ∈ eT := lw_t2 188 rfl rfl
theorem q429 : Cond.selects RX5 yX5_daysTillDeep yX5_daysTillDeep ∈ eT := lw_t2 189 rfl rfl
theorem q430 : Cond.code yX5_daysTillDeep cX5_daysTillDeep 5 (some .int) ∈ eT := lw_t2 190 rfl rfl
theorem q431 : Cond.methodLink RX5 37 yX0_depth ∈ eT := lw_t2 191 rfl rfl
theorem q432 : Cond.methodLink RX5 41 yX0_passDay ∈ eT := lw_t2 192 rfl rfl
theorem q433 : Cond.methodLink RL 77 yX6_first ∈ eT := lw_t2 193 rfl rfl
theorem q434 : Cond.instanceMethod yX6_first ∈ eT := lw_t2 194 rfl rfl
theorem q435 : Cond.selects RX6 yX6_first yX6_first ∈ eT := lw_t2 195 rfl rfl
theorem q436 : Cond.code yX6_first cX6_first 2 (some .int) ∈ eT := lw_t2 196 rfl rfl
theorem q437 : Cond.methodLink RX6 164 yX5_graveFirstFootDeeper ∈ eT := lw_t2 197 rfl rfl
theorem q438 : Cond.instanceMethod yX5_graveFirstFootDeeper ∈ eT := lw_t2 198 rfl rfl
theorem q439 : Cond.selects RX5 yX5_graveFirstFootDeeper yX5_graveFirstFootDeeper ∈ eT := lw_t2 199 rfl rfl
theorem q440 : Cond.code yX5_graveFirstFootDeeper cX5_graveFirstFootDeeper 3 (some .int) ∈ eT := lw_t2 200 rfl rfl
theorem q441 : Cond.methodLink RX5 48 yX5_daysTillFootDeeper ∈ eT := lw_t2 201 rfl rfl
theorem q442 : Cond.instanceMethod yX5_daysTillFootDeeper ∈ eT := lw_t2 202 rfl rfl
theorem q443 : Cond.selects RX5 yX5_daysTillFootDeeper yX5_daysTillFootDeeper ∈ eT := lw_t2 203 rfl rfl
theorem q444 : Cond.code yX5_daysTillFootDeeper cX5_daysTillFootDeeper 3 (some .int) ∈ eT := lw_t2 204 rfl rfl
theorem q445 : Cond.methodLink RX5 44 yX5_graveFootDeeperInMind ∈ eT := lw_t2 205 rfl rfl
theorem q447 : Cond.instanceMethod yX5_graveFootDeeperInMind ∈ eT := lw_t2 207 rfl rfl
theorem q448 : Cond.code yX5_graveFootDeeperInMind cX5_graveFootDeeperInMind 2 (some .int) ∈ eT := lw_t2 208 rfl rfl
theorem q449 : Cond.methodLink RX5 51 yX0_graveCount ∈ eT := lw_t2 209 rfl rfl
theorem q450 : Cond.instanceMethod yX0_graveCount ∈ eT := lw_t2 210 rfl rfl
theorem q451 : Cond.selects RX0 yX0_graveCount yX0_graveCount ∈ eT := lw_t2 211 rfl rfl
theorem q452 : Cond.code yX0_graveCount cX0_graveCount 1 (some .int) ∈ eT := lw_t2 212 rfl rfl
theorem q453 : Cond.methodLink RX6 167 yX5_daysTillFootDeeper ∈ eT := lw_t2 213 rfl rfl
theorem q454 : Cond.methodLink RX6 170 yX5_daysTillDry ∈ eT := lw_t2 214 rfl rfl
theorem q455 : Cond.instanceMethod yX5_daysTillDry ∈ eT := lw_t2 215 rfl rfl
theorem q456 : Cond.selects RX5 yX5_daysTillDry yX5_daysTillDry ∈ eT := lw_t2 216 rfl rfl
theorem q457 : Cond.code yX5_daysTillDry cX5_daysTillDry 3 (some .int) ∈ eT := lw_t2 217 rfl rfl
theorem q458 : Cond.methodLink RX5 54 yX0_isDry ∈ eT := lw_t2 218 rfl rfl
theorem q459 : Cond.instanceMethod yX0_isDry ∈ eT := lw_t2 219 rfl rfl
theorem q460 : Cond.selects RX0 yX0_isDry yX0_isDry ∈ eT := lw_t2 220 rfl rfl
theorem q461 : Cond.code yX0_isDry cX0_isDry 2 (some .boolean) ∈ eT := lw_t2 221 rfl rfl
theorem q462 : Cond.methodLink RX0 121 yX0_placeOf ∈ eT := lw_t2 222 rfl rfl
theorem q463 : Cond.methodLink RX6 173 yX0_driest ∈ eT := lw_t2 223 rfl rfl
theorem q464 : Cond.instanceMethod yX0_driest ∈ eT := lw_t2 224 rfl rfl
theorem q465 : Cond.selects RX0 yX0_driest yX0_driest ∈ eT := lw_t2 225 rfl rfl
theorem q466 : Cond.code yX0_driest cX0_driest 3 (some .int) ∈ eT := lw_t2 226 rfl rfl
theorem q467 : Cond.methodLink RX6 176 yX0_deepest ∈ eT := lw_t2 227 rfl rfl
theorem q468 : Cond.instanceMethod yX0_deepest ∈ eT := lw_t2 228 rfl rfl
theorem q469 : Cond.selects RX0 yX0_deepest yX0_deepest ∈ eT := lw_t2 229 rfl rfl
theorem q470 : Cond.code yX0_deepest cX0_deepest 3 (some .int) ∈ eT := lw_t2 230 rfl rfl
theorem q471 : Cond.methodLink RL 81 yX6_seat ∈ eT := lw_t2 231 rfl rfl
theorem q472 : Cond.instanceMethod yX6_seat ∈ eT := lw_t2 232 rfl rfl
theorem q473 : Cond.selects RX6 yX6_seat yX6_seat ∈ eT := lw_t2 233 rfl rfl
theorem q474 : Cond.code yX6_seat cX6_seat 2 (some .int) ∈ eT := lw_t2 234 rfl rfl
theorem q475 : Cond.methodLink RX6 179 yX0_graveCount ∈ eT := lw_t2 235 rfl rfl
theorem q476 : Cond.methodLink RX6 182 yX4_weigh ∈ eT := lw_t2 236 rfl rfl
theorem q477 : Cond.instanceMethod yX4_weigh ∈ eT := lw_t2 237 rfl rfl
theorem q478 : Cond.selects RX4 yX4_weigh yX4_weigh ∈ eT := lw_t2 238 rfl rfl
theorem q479 : Cond.code yX4_weigh cX4_weigh 5 none ∈ eT := lw_t2 239 rfl rfl
theorem q480 : Cond.methodLink RX4 25 yX0_mournerCount ∈ eT := lw_t3 0 rfl rfl
theorem q481 : Cond.instanceMethod yX0_mournerCount ∈ eT := lw_t3 1 rfl rfl
theorem q482 : Cond.selects RX0 yX0_mournerCount yX0_mournerCount ∈ eT := lw_t3 2 rfl rfl
theorem q483 : Cond.code yX0_mournerCount cX0_mournerCount 1 (some .int) ∈ eT := lw_t3 3 rfl rfl
theorem q484 : Cond.methodLink RX4 31 Lib.Math.min.name ∈ eT := lw_t3 4 rfl rfl
theorem q485 : Cond.methodLink RX4 37 yX4_measureSets ∈ eT := lw_t3 5 rfl rfl
theorem q487 : Cond.instanceMethod yX4_measureSets ∈ eT := lw_t3 7 rfl rfl
theorem q488 : Cond.code yX4_measureSets cX4_measureSets 5 none ∈ eT := lw_t3 8 rfl rfl
theorem q489 : Cond.fieldLink RX4 52 "GravediggerPaid$Seating" "DIGITS" "[I" ∈ eT := lw_t3 9 rfl rfl
theorem q491 : Cond.methodLink RX4 61 yX0_weeps ∈ eT := lw_t3 11 rfl rfl
theorem q492 : Cond.constant RX4 41 (-1000000000) ∈ eT := lw_t3 12 rfl rfl
theorem q493 : Cond.methodLink RX4 42 yX0_graveCount ∈ eT := lw_t3 13 rfl rfl
theorem q494 : Cond.methodLink RX4 45 yX4_bestWith ∈ eT := lw_t3 14 rfl rfl
theorem q496 : Cond.instanceMethod yX4_bestWith ∈ eT := lw_t3 16 rfl rfl
theorem q497 : Cond.code yX4_bestWith cX4_bestWith 10 (some .int) ∈ eT := lw_t3 17 rfl rfl
theorem q498 : Cond.methodLink RX4 65 yX0_wetness ∈ eT := lw_t3 18 rfl rfl
theorem q499 : Cond.methodLink RX4 68 yX0_weepingForInch ∈ eT := lw_t3 19 rfl rfl
theorem q500 : Cond.methodLink RX4 58 Lib.Math.max.name ∈ eT := lw_t3 20 rfl rfl
theorem q501 : Cond.methodLink RX6 185 yX4_inches ∈ eT := lw_t3 21 rfl rfl
theorem q502 : Cond.instanceMethod yX4_inches ∈ eT := lw_t3 22 rfl rfl
theorem q503 : Cond.selects RX4 yX4_inches yX4_inches ∈ eT := lw_t3 23 rfl rfl
theorem q504 : Cond.code yX4_inches cX4_inches 1 (some .int) ∈ eT := lw_t3 24 rfl rfl
theorem q505 : Cond.methodLink RX4 49 yJ9_floorDiv_7cf53 ∈ eT := lw_t3 25 rfl rfl
theorem q506 : Cond.static yJ9_floorDiv_7cf53 ∈ eT := lw_t3 26 rfl rfl
theorem q507 : Cond.code yJ9_floorDiv_7cf53 cJ9_floorDiv_7cf53 3 (some .int) ∈ eT := lw_t3 27 rfl rfl
theorem q508 : Cond.methodLink RX6 188 yX4_graveOf ∈ eT := lw_t3 28 rfl rfl
theorem q509 : Cond.instanceMethod yX4_graveOf ∈ eT := lw_t3 29 rfl rfl
theorem q510 : Cond.selects RX4 yX4_graveOf yX4_graveOf ∈ eT := lw_t3 30 rfl rfl
theorem q511 : Cond.code yX4_graveOf cX4_graveOf 3 (some .int) ∈ eT := lw_t3 31 rfl rfl
theorem q512 : Cond.methodLink RX4 55 yX4_inches ∈ eT := lw_t3 32 rfl rfl
theorem q513 : Cond.methodLink RL 85 yX6_fewest ∈ eT := lw_t3 33 rfl rfl
theorem q514 : Cond.instanceMethod yX6_fewest ∈ eT := lw_t3 34 rfl rfl
theorem q515 : Cond.selects RX6 yX6_fewest yX6_fewest ∈ eT := lw_t3 35 rfl rfl
theorem q516 : Cond.code yX6_fewest cX6_fewest 4 (some .int) ∈ eT := lw_t3 36 rfl rfl
theorem q517 : Cond.methodLink RX6 191 yX5_fewestFor ∈ eT := lw_t3 37 rfl rfl
theorem q518 : Cond.instanceMethod yX5_fewestFor ∈ eT := lw_t3 38 rfl rfl
theorem q519 : Cond.selects RX5 yX5_fewestFor yX5_fewestFor ∈ eT := lw_t3 39 rfl rfl
theorem q520 : Cond.code yX5_fewestFor cX5_fewestFor 7 (some .int) ∈ eT := lw_t3 40 rfl rfl
theorem q521 : Cond.methodLink RX5 58 yX0_mournerCount ∈ eT := lw_t3 41 rfl rfl
theorem q522 : Cond.methodLink RX5 61 yJ6_bitCount_0f7a4 ∈ eT := lw_t3 42 rfl rfl
theorem q523 : Cond.static yJ6_bitCount_0f7a4 ∈ eT := lw_t3 43 rfl rfl
theorem q524 : Cond.code yJ6_bitCount_0f7a4 cJ6_bitCount_0f7a4 1 (some .int) ∈ eT := lw_t3 44 rfl rfl
theorem q525 : Cond.constant RJ6 265 (1431655765) ∈ eT := lw_t3 45 rfl rfl
theorem q526 : Cond.constant RJ6 266 (858993459) ∈ eT := lw_t3 46 rfl rfl
theorem q527 : Cond.constant RJ6 267 (252645135) ∈ eT := lw_t3 47 rfl rfl
theorem q528 : Cond.methodLink RX5 66 yX5_depthBy ∈ eT := lw_t3 48 rfl rfl
theorem q530 : Cond.instanceMethod yX5_depthBy ∈ eT := lw_t3 50 rfl rfl
theorem q531 : Cond.code yX5_depthBy cX5_depthBy 5 (some .int) ∈ eT := lw_t3 51 rfl rfl
theorem q532 : Cond.methodLink RX5 70 yX0_place ∈ eT := lw_t3 52 rfl rfl
theorem q533 : Cond.methodLink RL 89 yX6_tell ∈ eT := lw_t3 53 rfl rfl
theorem q534 : Cond.instanceMethod yX6_tell ∈ eT := lw_t3 54 rfl rfl
theorem q535 : Cond.selects RX6 yX6_tell yX6_tell ∈ eT := lw_t3 55 rfl rfl
theorem q536 : Cond.code yX6_tell cX6_tell 3 (some .int) ∈ eT := lw_t3 56 rfl rfl
theorem q537 : Cond.methodLink RX6 194 yX5_whomToTell ∈ eT := lw_t3 57 rfl rfl
theorem q538 : Cond.instanceMethod yX5_whomToTell ∈ eT := lw_t3 58 rfl rfl
theorem q539 : Cond.selects RX5 yX5_whomToTell yX5_whomToTell ∈ eT := lw_t3 59 rfl rfl
theorem q540 : Cond.code yX5_whomToTell cX5_whomToTell 6 (some .int) ∈ eT := lw_t3 60 rfl rfl
theorem q541 : Cond.methodLink RX5 74 yX5_after ∈ eT := lw_t3 61 rfl rfl
theorem q542 : Cond.methodLink RX5 78 yX0_allInches ∈ eT := lw_t3 62 rfl rfl
theorem q543 : Cond.instanceMethod yX0_allInches ∈ eT := lw_t3 63 rfl rfl
theorem q544 : Cond.selects RX0 yX0_allInches yX0_allInches ∈ eT := lw_t3 64 rfl rfl
theorem q545 : Cond.code yX0_allInches cX0_allInches 3 (some .int) ∈ eT := lw_t3 65 rfl rfl
theorem q546 : Cond.methodLink RX5 81 yX0_inform ∈ eT := lw_t3 66 rfl rfl
theorem q547 : Cond.methodLink RL 93 yX6_send ∈ eT := lw_t3 67 rfl rfl
theorem q548 : Cond.instanceMethod yX6_send ∈ eT := lw_t3 68 rfl rfl
theorem q549 : Cond.selects RX6 yX6_send yX6_send ∈ eT := lw_t3 69 rfl rfl
theorem q550 : Cond.code yX6_send cX6_send 5 (some .int) ∈ eT := lw_t3 70 rfl rfl
theorem q551 : Cond.methodLink RX6 197 yX5_whomToSend ∈ eT := lw_t3 71 rfl rfl
theorem q552 : Cond.instanceMethod yX5_whomToSend ∈ eT := lw_t3 72 rfl rfl
theorem q553 : Cond.selects RX5 yX5_whomToSend yX5_whomToSend ∈ eT := lw_t3 73 rfl rfl
theorem q554 : Cond.code yX5_whomToSend cX5_whomToSend 6 (some .int) ∈ eT := lw_t3 74 rfl rfl
theorem q555 : Cond.methodLink RX5 84 yX0_placeOf ∈ eT := lw_t3 75 rfl rfl
theorem q556 : Cond.methodLink RX5 87 yX5_inchesLostWithout ∈ eT := lw_t3 76 rfl rfl
theorem q557 : Cond.instanceMethod yX5_inchesLostWithout ∈ eT := lw_t3 77 rfl rfl
theorem q558 : Cond.selects RX5 yX5_inchesLostWithout yX5_inchesLostWithout ∈ eT := lw_t3 78 rfl rfl
theorem q559 : Cond.code yX5_inchesLostWithout cX5_inchesLostWithout 4 (some .int) ∈ eT := lw_t3 79 rfl rfl
theorem q560 : Cond.methodLink RX6 200 yX5_inchesLostWithout ∈ eT := lw_t3 80 rfl rfl
theorem q561 : Cond.methodLink RL 97 yX6_bring ∈ eT := lw_t3 81 rfl rfl
theorem q562 : Cond.instanceMethod yX6_bring ∈ eT := lw_t3 82 rfl rfl
theorem q563 : Cond.selects RX6 yX6_bring yX6_bring ∈ eT := lw_t3 83 rfl rfl
theorem q564 : Cond.code yX6_bring cX6_bring 4 (some .int) ∈ eT := lw_t3 84 rfl rfl
theorem q565 : Cond.methodLink RX6 204 yX5_whereToBring ∈ eT := lw_t3 85 rfl rfl
theorem q566 : Cond.instanceMethod yX5_whereToBring ∈ eT := lw_t3 86 rfl rfl
theorem q567 : Cond.selects RX5 yX5_whereToBring yX5_whereToBring ∈ eT := lw_t3 87 rfl rfl
theorem q568 : Cond.code yX5_whereToBring cX5_whereToBring 7 (some .int) ∈ eT := lw_t3 88 rfl rfl
theorem q569 : Cond.methodLink RX5 91 yX0_allPay ∈ eT := lw_t3 89 rfl rfl
theorem q570 : Cond.methodLink RL 101 yX6_change ∈ eT := lw_t3 90 rfl rfl
theorem q571 : Cond.instanceMethod yX6_change ∈ eT := lw_t3 91 rfl rfl
theorem q572 : Cond.selects RX6 yX6_change yX6_change ∈ eT := lw_t3 92 rfl rfl
theorem q573 : Cond.code yX6_change cX6_change 3 (some .int) ∈ eT := lw_t3 93 rfl rfl
theorem q574 : Cond.methodLink RX6 207 yX5_whichToChange ∈ eT := lw_t3 94 rfl rfl
theorem q575 : Cond.instanceMethod yX5_whichToChange ∈ eT := lw_t3 95 rfl rfl
theorem q576 : Cond.selects RX5 yX5_whichToChange yX5_whichToChange ∈ eT := lw_t3 96 rfl rfl
theorem q577 : Cond.code yX5_whichToChange cX5_whichToChange 7 (some .int) ∈ eT := lw_t3 97 rfl rfl
theorem q578 : Cond.methodLink RL 105 yX6_onion ∈ eT := lw_t3 98 rfl rfl
theorem q579 : Cond.instanceMethod yX6_onion ∈ eT := lw_t3 99 rfl rfl
theorem q580 : Cond.selects RX6 yX6_onion yX6_onion ∈ eT := lw_t3 100 rfl rfl
theorem q581 : Cond.code yX6_onion cX6_onion 4 (some .int) ∈ eT := lw_t3 101 rfl rfl
theorem q582 : Cond.constant RX6 210 (1000000000) ∈ eT := lw_t3 102 rfl rfl
theorem q583 : Cond.methodLink RX6 211 yX5_inchesMoreAsOnion ∈ eT := lw_t3 103 rfl rfl
theorem q584 : Cond.instanceMethod yX5_inchesMoreAsOnion ∈ eT := lw_t3 104 rfl rfl
theorem q585 : Cond.selects RX5 yX5_inchesMoreAsOnion yX5_inchesMoreAsOnion ∈ eT := lw_t3 105 rfl rfl
theorem q586 : Cond.code yX5_inchesMoreAsOnion cX5_inchesMoreAsOnion 4 (some .int) ∈ eT := lw_t3 106 rfl rfl
theorem q587 : Cond.methodLink RX5 96 yX0_setKind ∈ eT := lw_t3 107 rfl rfl
theorem q588 : Cond.methodLink RL 109 yX6_tears ∈ eT := lw_t3 108 rfl rfl
theorem q589 : Cond.instanceMethod yX6_tears ∈ eT := lw_t3 109 rfl rfl
theorem q590 : Cond.selects RX6 yX6_tears yX6_tears ∈ eT := lw_t3 110 rfl rfl
theorem q591 : Cond.code yX6_tears cX6_tears 1 (some .int) ∈ eT := lw_t3 111 rfl rfl
theorem q592 : Cond.methodLink RX6 214 yX0_weepsMost ∈ eT := lw_t3 112 rfl rfl
theorem q593 : Cond.instanceMethod yX0_weepsMost ∈ eT := lw_t3 113 rfl rfl
theorem q594 : Cond.selects RX0 yX0_weepsMost yX0_weepsMost ∈ eT := lw_t3 114 rfl rfl
theorem q595 : Cond.code yX0_weepsMost cX0_weepsMost 3 (some .int) ∈ eT := lw_t3 115 rfl rfl
theorem q596 : Cond.methodLink RL 113 yX6_alone ∈ eT := lw_t3 116 rfl rfl
theorem q597 : Cond.instanceMethod yX6_alone ∈ eT := lw_t3 117 rfl rfl
theorem q598 : Cond.selects RX6 yX6_alone yX6_alone ∈ eT := lw_t3 118 rfl rfl
theorem q599 : Cond.code yX6_alone cX6_alone 2 (some .int) ∈ eT := lw_t3 119 rfl rfl
theorem q600 : Cond.methodLink RX6 217 yX0_gravesWithMourners ∈ eT := lw_t3 120 rfl rfl
theorem q601 : Cond.instanceMethod yX0_gravesWithMourners ∈ eT := lw_t3 121 rfl rfl
theorem q602 : Cond.selects RX0 yX0_gravesWithMourners yX0_gravesWithMourners ∈ eT := lw_t3 122 rfl rfl
theorem q603 : Cond.code yX0_gravesWithMourners cX0_gravesWithMourners 4 (some .int) ∈ eT := lw_t3 123 rfl rfl
theorem q604 : Cond.methodLink RX6 220 yX0_deepOnes ∈ eT := lw_t3 124 rfl rfl
theorem q605 : Cond.instanceMethod yX0_deepOnes ∈ eT := lw_t3 125 rfl rfl
theorem q606 : Cond.selects RX0 yX0_deepOnes yX0_deepOnes ∈ eT := lw_t3 126 rfl rfl
theorem q607 : Cond.code yX0_deepOnes cX0_deepOnes 3 (some .int) ∈ eT := lw_t3 127 rfl rfl
theorem q608 : Cond.methodLink RL 117 yX6_level ∈ eT := lw_t3 128 rfl rfl
theorem q609 : Cond.instanceMethod yX6_level ∈ eT := lw_t3 129 rfl rfl
theorem q610 : Cond.selects RX6 yX6_level yX6_level ∈ eT := lw_t3 130 rfl rfl
theorem q611 : Cond.code yX6_level cX6_level 1 (some .int) ∈ eT := lw_t3 131 rfl rfl
theorem q612 : Cond.methodLink RL 121 yX6_two ∈ eT := lw_t3 132 rfl rfl
theorem q613 : Cond.instanceMethod yX6_two ∈ eT := lw_t3 133 rfl rfl
theorem q614 : Cond.selects RX6 yX6_two yX6_two ∈ eT := lw_t3 134 rfl rfl
theorem q615 : Cond.code yX6_two cX6_two 5 (some .int) ∈ eT := lw_t3 135 rfl rfl
theorem q616 : Cond.methodLink RX6 223 yX5_firstCalmPair ∈ eT := lw_t3 136 rfl rfl
theorem q617 : Cond.instanceMethod yX5_firstCalmPair ∈ eT := lw_t3 137 rfl rfl
theorem q618 : Cond.selects RX5 yX5_firstCalmPair yX5_firstCalmPair ∈ eT := lw_t3 138 rfl rfl
theorem q619 : Cond.code yX5_firstCalmPair cX5_firstCalmPair 8 (some .int) ∈ eT := lw_t3 139 rfl rfl
theorem q620 : Cond.methodLink RX5 99 yX5_gain ∈ eT := lw_t3 140 rfl rfl
theorem q622 : Cond.instanceMethod yX5_gain ∈ eT := lw_t3 142 rfl rfl
theorem q623 : Cond.code yX5_gain cX5_gain 7 (some .int) ∈ eT := lw_t3 143 rfl rfl
theorem q624 : Cond.methodLink RL 125 yX6_share ∈ eT := lw_t3 144 rfl rfl
theorem q625 : Cond.instanceMethod yX6_share ∈ eT := lw_t3 145 rfl rfl
theorem q626 : Cond.selects RX6 yX6_share yX6_share ∈ eT := lw_t3 146 rfl rfl
theorem q627 : Cond.code yX6_share cX6_share 4 (some .long) ∈ eT := lw_t3 147 rfl rfl
theorem q628 : Cond.constantLong RX6 226 (4000000000000000000) ∈ eT := lw_t3 148 rfl rfl
theorem q629 : Cond.methodLink RX6 228 yX1_told ∈ eT := lw_t3 149 rfl rfl
theorem q630 : Cond.static yX1_told ∈ eT := lw_t3 150 rfl rfl
theorem q631 : Cond.code yX1_told cX1_told 7 (some .long) ∈ eT := lw_t3 151 rfl rfl
theorem q632 : Cond.methodLink RX1 7 yX1_commonDivisor ∈ eT := lw_t3 152 rfl rfl
theorem q633 : Cond.static yX1_commonDivisor ∈ eT := lw_t3 153 rfl rfl
theorem q634 : Cond.code yX1_commonDivisor cX1_commonDivisor 11 (some .long) ∈ eT := lw_t3 154 rfl rfl
theorem q635 : Cond.methodLink RX1 13 Lib.MathLoose.max_long.x ∈ eT := lw_t3 155 rfl rfl
theorem q636 : Cond.static Lib.MathLoose.max_long.x ∈ eT := lw_t3 156 rfl rfl
theorem q637 : Cond.code Lib.MathLoose.max_long.x Lib.MathLoose.max_long.code 4 (some .long) ∈ eT := lw_t3 157 rfl rfl
theorem q638 : Cond.methodLink RL 130 yX6_winter ∈ eT := lw_t3 158 rfl rfl
theorem q639 : Cond.instanceMethod yX6_winter ∈ eT := lw_t3 159 rfl rfl
theorem q640 : Cond.selects RX6 yX6_winter yX6_winter ∈ eT := lw_t3 160 rfl rfl
theorem q641 : Cond.code yX6_winter cX6_winter 8 (some .long) ∈ eT := lw_t3 161 rfl rfl
theorem q642 : Cond.methodLink RX6 234 yX5_waysToBeDeeper ∈ eT := lw_t3 162 rfl rfl
theorem q643 : Cond.instanceMethod yX5_waysToBeDeeper ∈ eT := lw_t3 163 rfl rfl
theorem q644 : Cond.selects RX5 yX5_waysToBeDeeper yX5_waysToBeDeeper ∈ eT := lw_t3 164 rfl rfl
theorem q645 : Cond.code yX5_waysToBeDeeper cX5_waysToBeDeeper 8 (some .long) ∈ eT := lw_t3 165 rfl rfl
theorem q646 : Cond.methodLink RX5 103 yX0_weepingAt ∈ eT := lw_t3 166 rfl rfl
theorem q647 : Cond.methodLink RX5 106 yX0_fade ∈ eT := lw_t3 167 rfl rfl
theorem q648 : Cond.methodLink RX5 109 yX5_inchesOnDays ∈ eT := lw_t3 168 rfl rfl
theorem q650 : Cond.instanceMethod yX5_inchesOnDays ∈ eT := lw_t3 170 rfl rfl
theorem q651 : Cond.code yX5_inchesOnDays cX5_inchesOnDays 5 (some .int) ∈ eT := lw_t3 171 rfl rfl
theorem q652 : Cond.methodLink RX5 118 yX0_mournersAt ∈ eT := lw_t3 172 rfl rfl
theorem q653 : Cond.methodLink RX5 121 yX0_soak ∈ eT := lw_t3 173 rfl rfl
theorem q654 : Cond.methodLink RX5 112 yX1_power ∈ eT := lw_t3 174 rfl rfl
theorem q655 : Cond.static yX1_power ∈ eT := lw_t3 175 rfl rfl
theorem q656 : Cond.code yX1_power cX1_power 6 (some .long) ∈ eT := lw_t3 176 rfl rfl
theorem q657 : Cond.methodLink RX6 238 yX1_power ∈ eT := lw_t3 177 rfl rfl
theorem q658 : Cond.methodLink RL 135 yX6_mean ∈ eT := lw_t3 178 rfl rfl
theorem q659 : Cond.instanceMethod yX6_mean ∈ eT := lw_t3 179 rfl rfl
theorem q660 : Cond.selects RX6 yX6_mean yX6_mean ∈ eT := lw_t3 180 rfl rfl
theorem q661 : Cond.code yX6_mean cX6_mean 2 (some .long) ∈ eT := lw_t3 181 rfl rfl
theorem q662 : Cond.methodLink RX6 242 yX0_allInches ∈ eT := lw_t3 182 rfl rfl
theorem q663 : Cond.methodLink RL 140 yX6_whoWept ∈ eT := lw_t3 183 rfl rfl
theorem q664 : Cond.instanceMethod yX6_whoWept ∈ eT := lw_t3 184 rfl rfl
theorem q665 : Cond.selects RX6 yX6_whoWept yX6_whoWept ∈ eT := lw_t3 185 rfl rfl
theorem q666 : Cond.code yX6_whoWept cX6_whoWept 2 (some .int) ∈ eT := lw_t3 186 rfl rfl
theorem q667 : Cond.methodLink RX6 245 yX5_whoAloneFits ∈ eT := lw_t3 187 rfl rfl
theorem q668 : Cond.instanceMethod yX5_whoAloneFits ∈ eT := lw_t3 188 rfl rfl
theorem q669 : Cond.selects RX5 yX5_whoAloneFits yX5_whoAloneFits ∈ eT := lw_t3 189 rfl rfl
theorem q670 : Cond.code yX5_whoAloneFits cX5_whoAloneFits 6 (some .int) ∈ eT := lw_t3 190 rfl rfl
theorem q671 : Cond.methodLink RX5 124 yX0_allLeave ∈ eT := lw_t3 191 rfl rfl
theorem q672 : Cond.methodLink RX5 127 yX5_fitsRow ∈ eT := lw_t3 192 rfl rfl
theorem q674 : Cond.instanceMethod yX5_fitsRow ∈ eT := lw_t3 194 rfl rfl
theorem q675 : Cond.code yX5_fitsRow cX5_fitsRow 5 (some .boolean) ∈ eT := lw_t3 195 rfl rfl
theorem q676 : Cond.methodLink RL 144 yX6_whatIs ∈ eT := lw_t3 196 rfl rfl
theorem q677 : Cond.instanceMethod yX6_whatIs ∈ eT := lw_t3 197 rfl rfl
theorem q678 : Cond.selects RX6 yX6_whatIs yX6_whatIs ∈ eT := lw_t3 198 rfl rfl
theorem q679 : Cond.code yX6_whatIs cX6_whatIs 3 (some .int) ∈ eT := lw_t3 199 rfl rfl
theorem q680 : Cond.methodLink RX6 249 yX5_kindsThatFit ∈ eT := lw_t3 200 rfl rfl
theorem q681 : Cond.instanceMethod yX5_kindsThatFit ∈ eT := lw_t3 201 rfl rfl
theorem q682 : Cond.selects RX5 yX5_kindsThatFit yX5_kindsThatFit ∈ eT := lw_t3 202 rfl rfl
theorem q683 : Cond.code yX5_kindsThatFit cX5_kindsThatFit 6 (some .int) ∈ eT := lw_t3 203 rfl rfl
theorem q684 : Cond.methodLink RX6 252 yX5_figuresThatFit ∈ eT := lw_t3 204 rfl rfl
theorem q685 : Cond.instanceMethod yX5_figuresThatFit ∈ eT := lw_t3 205 rfl rfl
theorem q686 : Cond.selects RX5 yX5_figuresThatFit yX5_figuresThatFit ∈ eT := lw_t3 206 rfl rfl
theorem q687 : Cond.code yX5_figuresThatFit cX5_figuresThatFit 6 (some .int) ∈ eT := lw_t3 207 rfl rfl
theorem q688 : Cond.methodLink RX5 131 yX0_setFigure ∈ eT := lw_t3 208 rfl rfl
theorem q689 : Cond.methodLink RL 148 yX6_row ∈ eT := lw_t3 209 rfl rfl
theorem q690 : Cond.instanceMethod yX6_row ∈ eT := lw_t3 210 rfl rfl
theorem q691 : Cond.selects RX6 yX6_row yX6_row ∈ eT := lw_t3 211 rfl rfl
theorem q692 : Cond.code yX6_row cX6_row 3 (some .int) ∈ eT := lw_t3 212 rfl rfl
theorem q693 : Cond.methodLink RL 152 yX6_judge ∈ eT := lw_t3 213 rfl rfl
theorem q694 : Cond.instanceMethod yX6_judge ∈ eT := lw_t3 214 rfl rfl
theorem q695 : Cond.selects RX6 yX6_judge yX6_judge ∈ eT := lw_t3 215 rfl rfl
theorem q696 : Cond.code yX6_judge cX6_judge 2 (some .int) ∈ eT := lw_t3 216 rfl rfl
theorem q697 : Cond.methodLink RX6 255 yX6_firstUntrueGrief ∈ eT := lw_t3 217 rfl rfl
theorem q699 : Cond.instanceMethod yX6_firstUntrueGrief ∈ eT := lw_t3 219 rfl rfl
theorem q700 : Cond.code yX6_firstUntrueGrief cX6_firstUntrueGrief 2 (some .int) ∈ eT := lw_t3 220 rfl rfl
theorem q701 : Cond.methodLink RL 156 yX6_clear ∈ eT := lw_t3 221 rfl rfl
theorem q702 : Cond.instanceMethod yX6_clear ∈ eT := lw_t3 222 rfl rfl
theorem q703 : Cond.selects RX6 yX6_clear yX6_clear ∈ eT := lw_t3 223 rfl rfl
theorem q704 : Cond.code yX6_clear cX6_clear 2 (some .int) ∈ eT := lw_t3 224 rfl rfl
theorem q705 : Cond.methodLink RL 160 yX6_lots ∈ eT := lw_t3 225 rfl rfl
theorem q706 : Cond.instanceMethod yX6_lots ∈ eT := lw_t3 226 rfl rfl
theorem q707 : Cond.selects RX6 yX6_lots yX6_lots ∈ eT := lw_t3 227 rfl rfl
theorem q708 : Cond.code yX6_lots cX6_lots 5 (some .int) ∈ eT := lw_t3 228 rfl rfl
theorem q709 : Cond.methodLink RX6 258 yX5_payByLot ∈ eT := lw_t3 229 rfl rfl
theorem q710 : Cond.instanceMethod yX5_payByLot ∈ eT := lw_t3 230 rfl rfl
theorem q711 : Cond.selects RX5 yX5_payByLot yX5_payByLot ∈ eT := lw_t3 231 rfl rfl
theorem q712 : Cond.code yX5_payByLot cX5_payByLot 5 (some .int) ∈ eT := lw_t3 232 rfl rfl
theorem q713 : Cond.methodLink RX5 134 yX5_drawChurchyard ∈ eT := lw_t3 233 rfl rfl
theorem q715 : Cond.instanceMethod yX5_drawChurchyard ∈ eT := lw_t3 235 rfl rfl
theorem q716 : Cond.code yX5_drawChurchyard cX5_drawChurchyard 2 none ∈ eT := lw_t3 236 rfl rfl
theorem q717 : Cond.methodLink RX5 137 yX5_drawBelow ∈ eT := lw_t3 237 rfl rfl
theorem q719 : Cond.instanceMethod yX5_drawBelow ∈ eT := lw_t3 239 rfl rfl
theorem q720 : Cond.code yX5_drawBelow cX5_drawBelow 2 (some .int) ∈ eT := lw_t4 0 rfl rfl
theorem q721 : Cond.constant RX5 143 (1664525) ∈ eT := lw_t4 1 rfl rfl
theorem q722 : Cond.constant RX5 144 (1013904223) ∈ eT := lw_t4 2 rfl rfl
theorem q723 : Cond.constant RX5 145 (2147483647) ∈ eT := lw_t4 3 rfl rfl
theorem q724 : Cond.methodLink RX5 146 Lib.Math.max.name ∈ eT := lw_t4 4 rfl rfl
theorem q725 : Cond.methodLink RX5 140 yX0_setGrief ∈ eT := lw_t4 5 rfl rfl
theorem q726 : Cond.methodLink RX6 261 yX5_inchesByLot ∈ eT := lw_t4 6 rfl rfl
theorem q727 : Cond.instanceMethod yX5_inchesByLot ∈ eT := lw_t4 7 rfl rfl
theorem q728 : Cond.selects RX5 yX5_inchesByLot yX5_inchesByLot ∈ eT := lw_t4 8 rfl rfl
theorem q729 : Cond.code yX5_inchesByLot cX5_inchesByLot 5 (some .int) ∈ eT := lw_t4 9 rfl rfl
theorem q730 : Cond.methodLink RL 164 yX6_image ∈ eT := lw_t4 10 rfl rfl
theorem q731 : Cond.instanceMethod yX6_image ∈ eT := lw_t4 11 rfl rfl
theorem q732 : Cond.selects RX6 yX6_image yX6_image ∈ eT := lw_t4 12 rfl rfl
theorem q733 : Cond.code yX6_image cX6_image 1 (some .int) ∈ eT := lw_t4 13 rfl rfl
theorem q734 : Cond.methodLink RL 168 yX6_on ∈ eT := lw_t4 14 rfl rfl
theorem q735 : Cond.instanceMethod yX6_on ∈ eT := lw_t4 15 rfl rfl
theorem q736 : Cond.selects RX6 yX6_on yX6_on ∈ eT := lw_t4 16 rfl rfl
theorem q737 : Cond.code yX6_on cX6_on 1 (some .int) ∈ eT := lw_t4 17 rfl rfl
theorem q738 : Cond.methodLink RL 172 yX6_count ∈ eT := lw_t4 18 rfl rfl
theorem q739 : Cond.instanceMethod yX6_count ∈ eT := lw_t4 19 rfl rfl
theorem q740 : Cond.selects RX6 yX6_count yX6_count ∈ eT := lw_t4 20 rfl rfl
theorem q741 : Cond.code yX6_count cX6_count 2 (some .int) ∈ eT := lw_t4 21 rfl rfl
theorem q742 : Cond.methodLink RX6 264 yX0_mournerCount ∈ eT := lw_t4 22 rfl rfl
theorem q743 : Cond.methodLink RX6 267 yX0_allGrief ∈ eT := lw_t4 23 rfl rfl
theorem q744 : Cond.instanceMethod yX0_allGrief ∈ eT := lw_t4 24 rfl rfl
theorem q745 : Cond.selects RX0 yX0_allGrief yX0_allGrief ∈ eT := lw_t4 25 rfl rfl
theorem q746 : Cond.code yX0_allGrief cX0_allGrief 3 (some .int) ∈ eT := lw_t4 26 rfl rfl
theorem q747 : Cond.methodLink RX6 270 yX3_howMany ∈ eT := lw_t4 27 rfl rfl
theorem q748 : Cond.instanceMethod yX3_howMany ∈ eT := lw_t4 28 rfl rfl
theorem q749 : Cond.selects RX3 yX3_howMany yX3_howMany ∈ eT := lw_t4 29 rfl rfl
theorem q750 : Cond.code yX3_howMany cX3_howMany 1 (some .int) ∈ eT := lw_t4 30 rfl rfl
theorem q751 : Cond.classLink RL 10 RX7 ∈ eT := lw_t4 31 rfl rfl
theorem q752 : Cond.instantiable RX7 17 ∈ eT := lw_t4 32 rfl rfl
theorem q753 : Cond.methodLink RL 12 yX7_init ∈ eT := lw_t4 33 rfl rfl
theorem q754 : Cond.instanceMethod yX7_init ∈ eT := lw_t4 34 rfl rfl
theorem q755 : Cond.code yX7_init cX7_init 1 none ∈ eT := lw_t4 35 rfl rfl
theorem q756 : Cond.methodLink RX7 1 objectInit ∈ eT := lw_t4 36 rfl rfl
theorem q757 : Cond.fieldLink RX7 9 "GravediggerPaidModel" "s" "[I" ∈ eT := lw_t4 37 rfl rfl
theorem q758 : Cond.fieldLink RX7 13 "GravediggerPaidModel" "m" "[I" ∈ eT := lw_t4 38 rfl rfl
theorem q759 : Cond.fieldLink RX7 16 "GravediggerPaidModel" "image" "[I" ∈ eT := lw_t4 39 rfl rfl
theorem q760 : Cond.fieldLink RX7 19 "GravediggerPaidModel" "was" "[I" ∈ eT := lw_t4 40 rfl rfl
theorem q761 : Cond.fieldLink RX7 220 "GravediggerPaidModel" "hasImage" "Z" ∈ eT := lw_t4 41 rfl rfl
theorem q762 : Cond.fieldLink RX7 22 "GravediggerPaidModel" "letters" "[I" ∈ eT := lw_t4 42 rfl rfl
theorem q763 : Cond.fieldLink RX7 25 "GravediggerPaidModel" "row" "[I" ∈ eT := lw_t4 43 rfl rfl
theorem q764 : Cond.fieldLink RX7 28 "GravediggerPaidModel" "refused" "[I" ∈ eT := lw_t4 44 rfl rfl
theorem q765 : Cond.fieldLink RX7 82 "GravediggerPaidModel" "letterMany" "I" ∈ eT := lw_t4 45 rfl rfl
theorem q766 : Cond.fieldLink RX7 205 "GravediggerPaidModel" "rowMany" "I" ∈ eT := lw_t4 46 rfl rfl
theorem q767 : Cond.fieldLink RX7 86 "GravediggerPaidModel" "place" "I" ∈ eT := lw_t4 47 rfl rfl
theorem q768 : Cond.fieldLink RX7 31 "GravediggerPaidModel" "numbers" "[I" ∈ eT := lw_t4 48 rfl rfl
theorem q769 : Cond.fieldLink RX7 34 "GravediggerPaidModel" "given" "[I" ∈ eT := lw_t4 49 rfl rfl
theorem q770 : Cond.fieldLink RX7 37 "GravediggerPaidModel" "bestGiven" "[I" ∈ eT := lw_t4 50 rfl rfl
theorem q771 : Cond.fieldLink RX7 40 "GravediggerPaidModel" "poured" "[I" ∈ eT := lw_t4 51 rfl rfl
theorem q772 : Cond.fieldLink RX7 161 "GravediggerPaidModel" "bestInches" "I" ∈ eT := lw_t4 52 rfl rfl
theorem q773 : Cond.fieldLink RX7 211 "GravediggerPaidModel" "seed" "I" ∈ eT := lw_t4 53 rfl rfl
theorem q774 : Cond.laysFinal "GravediggerPaidModel" "GravediggerPaidModel" "s" "[I" ∈ eT := lw_t4 54 rfl rfl
theorem q776 : Cond.laysFinal "GravediggerPaidModel" "GravediggerPaidModel" "m" "[I" ∈ eT := lw_t4 56 rfl rfl
theorem q778 : Cond.laysFinal "GravediggerPaidModel" "GravediggerPaidModel" "image" "[I" ∈ eT := lw_t4 58 rfl rfl
theorem q780 : Cond.laysFinal "GravediggerPaidModel" "GravediggerPaidModel" "was" "[I" ∈ eT := lw_t4 60 rfl rfl
theorem q782 : Cond.lays "GravediggerPaidModel" "GravediggerPaidModel" "hasImage" "Z" ∈ eT := lw_t4 62 rfl rfl
theorem q784 : Cond.laysFinal "GravediggerPaidModel" "GravediggerPaidModel" "letters" "[I" ∈ eT := lw_t4 64 rfl rfl
theorem q786 : Cond.laysFinal "GravediggerPaidModel" "GravediggerPaidModel" "row" "[I" ∈ eT := lw_t4 66 rfl rfl
theorem q788 : Cond.laysFinal "GravediggerPaidModel" "GravediggerPaidModel" "refused" "[I" ∈ eT := lw_t4 68 rfl rfl
theorem q790 : Cond.lays "GravediggerPaidModel" "GravediggerPaidModel" "letterMany" "I" ∈ eT := lw_t4 70 rfl rfl
theorem q792 : Cond.lays "GravediggerPaidModel" "GravediggerPaidModel" "rowMany" "I" ∈ eT := lw_t4 72 rfl rfl
theorem q794 : Cond.lays "GravediggerPaidModel" "GravediggerPaidModel" "place" "I" ∈ eT := lw_t4 74 rfl rfl
theorem q796 : Cond.laysFinal "GravediggerPaidModel" "GravediggerPaidModel" "numbers" "[I" ∈ eT := lw_t4 76 rfl rfl
theorem q798 : Cond.laysFinal "GravediggerPaidModel" "GravediggerPaidModel" "given" "[I" ∈ eT := lw_t4 78 rfl rfl
theorem q800 : Cond.laysFinal "GravediggerPaidModel" "GravediggerPaidModel" "bestGiven" "[I" ∈ eT := lw_t4 80 rfl rfl
theorem q802 : Cond.laysFinal "GravediggerPaidModel" "GravediggerPaidModel" "poured" "[I" ∈ eT := lw_t4 82 rfl rfl
theorem q804 : Cond.lays "GravediggerPaidModel" "GravediggerPaidModel" "bestInches" "I" ∈ eT := lw_t4 84 rfl rfl
theorem q806 : Cond.lays "GravediggerPaidModel" "GravediggerPaidModel" "seed" "I" ∈ eT := lw_t4 86 rfl rfl
theorem q809 : Cond.methodLink RL 17 yX7_letter ∈ eT := lw_t4 89 rfl rfl
theorem q810 : Cond.instanceMethod yX7_letter ∈ eT := lw_t4 90 rfl rfl
theorem q811 : Cond.selects RX7 yX7_letter yX7_letter ∈ eT := lw_t4 91 rfl rfl
theorem q812 : Cond.code yX7_letter cX7_letter 2 (some .int) ∈ eT := lw_t4 92 rfl rfl
theorem q813 : Cond.methodLink RX7 44 yX7_no ∈ eT := lw_t4 93 rfl rfl
theorem q815 : Cond.instanceMethod yX7_no ∈ eT := lw_t4 95 rfl rfl
theorem q816 : Cond.code yX7_no cX7_no 2 (some .int) ∈ eT := lw_t4 96 rfl rfl
theorem q817 : Cond.methodLink RL 22 yX7_yard ∈ eT := lw_t4 97 rfl rfl
theorem q818 : Cond.instanceMethod yX7_yard ∈ eT := lw_t4 98 rfl rfl
theorem q819 : Cond.selects RX7 yX7_yard yX7_yard ∈ eT := lw_t4 99 rfl rfl
theorem q820 : Cond.code yX7_yard cX7_yard 6 (some .int) ∈ eT := lw_t4 100 rfl rfl
theorem q821 : Cond.methodLink RX7 118 yX7_readsStatement ∈ eT := lw_t4 101 rfl rfl
theorem q823 : Cond.instanceMethod yX7_readsStatement ∈ eT := lw_t4 103 rfl rfl
theorem q824 : Cond.code yX7_readsStatement cX7_readsStatement 3 (some .boolean) ∈ eT := lw_t4 104 rfl rfl
theorem q825 : Cond.methodLink RX7 89 yX7_here ∈ eT := lw_t4 105 rfl rfl
theorem q827 : Cond.instanceMethod yX7_here ∈ eT := lw_t4 107 rfl rfl
theorem q828 : Cond.code yX7_here cX7_here 1 (some .int) ∈ eT := lw_t4 108 rfl rfl
theorem q829 : Cond.methodLink RX7 96 yX7_readsNumber ∈ eT := lw_t4 109 rfl rfl
theorem q831 : Cond.instanceMethod yX7_readsNumber ∈ eT := lw_t4 111 rfl rfl
theorem q832 : Cond.code yX7_readsNumber cX7_readsNumber 4 (some .boolean) ∈ eT := lw_t4 112 rfl rfl
theorem q833 : Cond.methodLink RX7 50 yX7_isIn ∈ eT := lw_t4 113 rfl rfl
theorem q834 : Cond.static yX7_isIn ∈ eT := lw_t4 114 rfl rfl
theorem q835 : Cond.code yX7_isIn cX7_isIn 3 (some .boolean) ∈ eT := lw_t4 115 rfl rfl
theorem q836 : Cond.methodLink RX7 100 yX7_readsKind ∈ eT := lw_t4 116 rfl rfl
theorem q838 : Cond.instanceMethod yX7_readsKind ∈ eT := lw_t4 118 rfl rfl
theorem q839 : Cond.code yX7_readsKind cX7_readsKind 1 (some .boolean) ∈ eT := lw_t4 119 rfl rfl
theorem q840 : Cond.methodLink RX7 93 yX7_kindBy ∈ eT := lw_t4 120 rfl rfl
theorem q841 : Cond.static yX7_kindBy ∈ eT := lw_t4 121 rfl rfl
theorem q842 : Cond.code yX7_kindBy cX7_kindBy 1 (some .int) ∈ eT := lw_t4 122 rfl rfl
theorem q843 : Cond.methodLink RX7 121 yX7_copies ∈ eT := lw_t4 123 rfl rfl
theorem q844 : Cond.static yX7_copies ∈ eT := lw_t4 124 rfl rfl
theorem q845 : Cond.code yX7_copies cX7_copies 3 none ∈ eT := lw_t4 125 rfl rfl
theorem q846 : Cond.methodLink RX7 125 yX7_isDone ∈ eT := lw_t4 126 rfl rfl
theorem q848 : Cond.instanceMethod yX7_isDone ∈ eT := lw_t4 128 rfl rfl
theorem q849 : Cond.code yX7_isDone cX7_isDone 4 (some .boolean) ∈ eT := lw_t4 129 rfl rfl
theorem q850 : Cond.methodLink RX7 58 yX7_ofG ∈ eT := lw_t4 130 rfl rfl
theorem q851 : Cond.static yX7_ofG ∈ eT := lw_t4 131 rfl rfl
theorem q852 : Cond.code yX7_ofG cX7_ofG 2 (some .int) ∈ eT := lw_t4 132 rfl rfl
theorem q853 : Cond.methodLink RX7 54 yX7_ofM ∈ eT := lw_t4 133 rfl rfl
theorem q854 : Cond.static yX7_ofM ∈ eT := lw_t4 134 rfl rfl
theorem q855 : Cond.code yX7_ofM cX7_ofM 2 (some .int) ∈ eT := lw_t4 135 rfl rfl
theorem q856 : Cond.methodLink RX7 104 yX7_isMourner ∈ eT := lw_t4 136 rfl rfl
theorem q858 : Cond.instanceMethod yX7_isMourner ∈ eT := lw_t4 138 rfl rfl
theorem q859 : Cond.code yX7_isMourner cX7_isMourner 2 (some .boolean) ∈ eT := lw_t4 139 rfl rfl
theorem q860 : Cond.methodLink RX7 108 yX7_isGrave ∈ eT := lw_t4 140 rfl rfl
theorem q862 : Cond.instanceMethod yX7_isGrave ∈ eT := lw_t4 142 rfl rfl
theorem q863 : Cond.code yX7_isGrave cX7_isGrave 2 (some .boolean) ∈ eT := lw_t4 143 rfl rfl
theorem q864 : Cond.methodLink RX7 111 yX7_isTold ∈ eT := lw_t4 144 rfl rfl
theorem q865 : Cond.static yX7_isTold ∈ eT := lw_t4 145 rfl rfl
theorem q866 : Cond.code yX7_isTold cX7_isTold 2 none ∈ eT := lw_t4 146 rfl rfl
theorem q867 : Cond.methodLink RX7 79 yX7_toldBy ∈ eT := lw_t4 147 rfl rfl
theorem q868 : Cond.static yX7_toldBy ∈ eT := lw_t4 148 rfl rfl
theorem q869 : Cond.code yX7_toldBy cX7_toldBy 1 (some .int) ∈ eT := lw_t4 149 rfl rfl
theorem q870 : Cond.methodLink RX7 61 yX7_least ∈ eT := lw_t4 150 rfl rfl
theorem q871 : Cond.static yX7_least ∈ eT := lw_t4 151 rfl rfl
theorem q872 : Cond.code yX7_least cX7_least 2 (some .int) ∈ eT := lw_t4 152 rfl rfl
theorem q873 : Cond.methodLink RX7 115 yX7_daysOn ∈ eT := lw_t4 153 rfl rfl
theorem q874 : Cond.static yX7_daysOn ∈ eT := lw_t4 154 rfl rfl
theorem q875 : Cond.code yX7_daysOn cX7_daysOn 3 none ∈ eT := lw_t4 155 rfl rfl
theorem q876 : Cond.methodLink RX7 75 yX7_day ∈ eT := lw_t4 156 rfl rfl
theorem q877 : Cond.static yX7_day ∈ eT := lw_t4 157 rfl rfl
theorem q878 : Cond.code yX7_day cX7_day 4 none ∈ eT := lw_t4 158 rfl rfl
theorem q879 : Cond.methodLink RX7 64 yX7_weeps ∈ eT := lw_t4 159 rfl rfl
theorem q880 : Cond.static yX7_weeps ∈ eT := lw_t4 160 rfl rfl
theorem q881 : Cond.code yX7_weeps cX7_weeps 4 (some .int) ∈ eT := lw_t4 161 rfl rfl
theorem q882 : Cond.methodLink RX7 68 yX7_soaks ∈ eT := lw_t4 162 rfl rfl
theorem q883 : Cond.static yX7_soaks ∈ eT := lw_t4 163 rfl rfl
theorem q884 : Cond.code yX7_soaks cX7_soaks 5 none ∈ eT := lw_t4 164 rfl rfl
theorem q885 : Cond.methodLink RX7 72 yX7_fadesBy ∈ eT := lw_t4 165 rfl rfl
theorem q886 : Cond.static yX7_fadesBy ∈ eT := lw_t4 166 rfl rfl
theorem q887 : Cond.code yX7_fadesBy cX7_fadesBy 1 (some .int) ∈ eT := lw_t4 167 rfl rfl
theorem q888 : Cond.methodLink RL 27 yX7_grave ∈ eT := lw_t4 168 rfl rfl
theorem q889 : Cond.instanceMethod yX7_grave ∈ eT := lw_t4 169 rfl rfl
theorem q890 : Cond.selects RX7 yX7_grave yX7_grave ∈ eT := lw_t4 170 rfl rfl
theorem q891 : Cond.code yX7_grave cX7_grave 3 (some .int) ∈ eT := lw_t4 171 rfl rfl
theorem q892 : Cond.methodLink RX7 131 yX7_weepingAt ∈ eT := lw_t4 172 rfl rfl
theorem q894 : Cond.instanceMethod yX7_weepingAt ∈ eT := lw_t4 174 rfl rfl
theorem q895 : Cond.code yX7_weepingAt cX7_weepingAt 4 (some .int) ∈ eT := lw_t4 175 rfl rfl
theorem q896 : Cond.methodLink RX7 134 yX7_daysTo ∈ eT := lw_t4 176 rfl rfl
theorem q898 : Cond.instanceMethod yX7_daysTo ∈ eT := lw_t4 178 rfl rfl
theorem q899 : Cond.code yX7_daysTo cX7_daysTo 5 (some .int) ∈ eT := lw_t4 179 rfl rfl
theorem q900 : Cond.methodLink RX7 128 yX7_peopleAt ∈ eT := lw_t4 180 rfl rfl
theorem q902 : Cond.instanceMethod yX7_peopleAt ∈ eT := lw_t4 182 rfl rfl
theorem q903 : Cond.code yX7_peopleAt cX7_peopleAt 4 (some .int) ∈ eT := lw_t4 183 rfl rfl
theorem q904 : Cond.methodLink RL 31 yX7_mourner ∈ eT := lw_t4 184 rfl rfl
theorem q905 : Cond.instanceMethod yX7_mourner ∈ eT := lw_t4 185 rfl rfl
theorem q906 : Cond.selects RX7 yX7_mourner yX7_mourner ∈ eT := lw_t4 186 rfl rfl
theorem q907 : Cond.code yX7_mourner cX7_mourner 3 (some .int) ∈ eT := lw_t4 187 rfl rfl
theorem q908 : Cond.methodLink RL 35 yX7_goes ∈ eT := lw_t4 188 rfl rfl
theorem q909 : Cond.instanceMethod yX7_goes ∈ eT := lw_t4 189 rfl rfl
theorem q910 : Cond.selects RX7 yX7_goes yX7_goes ∈ eT := lw_t4 190 rfl rfl
theorem q911 : Cond.code yX7_goes cX7_goes 4 (some .int) ∈ eT := lw_t4 191 rfl rfl
theorem q912 : Cond.methodLink RL 39 yX7_leaves ∈ eT := lw_t4 192 rfl rfl
theorem q913 : Cond.instanceMethod yX7_leaves ∈ eT := lw_t4 193 rfl rfl
theorem q914 : Cond.selects RX7 yX7_leaves yX7_leaves ∈ eT := lw_t4 194 rfl rfl
theorem q915 : Cond.code yX7_leaves cX7_leaves 3 (some .int) ∈ eT := lw_t4 195 rfl rfl
theorem q916 : Cond.methodLink RL 43 yX7_hears ∈ eT := lw_t4 196 rfl rfl
theorem q917 : Cond.instanceMethod yX7_hears ∈ eT := lw_t4 197 rfl rfl
theorem q918 : Cond.selects RX7 yX7_hears yX7_hears ∈ eT := lw_t4 198 rfl rfl
theorem q919 : Cond.code yX7_hears cX7_hears 2 (some .int) ∈ eT := lw_t4 199 rfl rfl
theorem q920 : Cond.methodLink RL 47 yX7_grieves ∈ eT := lw_t4 200 rfl rfl
theorem q921 : Cond.instanceMethod yX7_grieves ∈ eT := lw_t4 201 rfl rfl
theorem q922 : Cond.selects RX7 yX7_grieves yX7_grieves ∈ eT := lw_t4 202 rfl rfl
theorem q923 : Cond.code yX7_grieves cX7_grieves 5 (some .int) ∈ eT := lw_t4 203 rfl rfl
theorem q924 : Cond.methodLink RX7 137 yX7_wrongBy ∈ eT := lw_t4 204 rfl rfl
theorem q925 : Cond.static yX7_wrongBy ∈ eT := lw_t4 205 rfl rfl
theorem q926 : Cond.code yX7_wrongBy cX7_wrongBy 3 (some .int) ∈ eT := lw_t4 206 rfl rfl
theorem q927 : Cond.methodLink RL 51 yX7_hardens ∈ eT := lw_t4 207 rfl rfl
theorem q928 : Cond.instanceMethod yX7_hardens ∈ eT := lw_t4 208 rfl rfl
theorem q929 : Cond.selects RX7 yX7_hardens yX7_hardens ∈ eT := lw_t4 209 rfl rfl
theorem q930 : Cond.code yX7_hardens cX7_hardens 5 (some .int) ∈ eT := lw_t4 210 rfl rfl
theorem q931 : Cond.methodLink RL 56 yX7_turn ∈ eT := lw_t4 211 rfl rfl
theorem q932 : Cond.instanceMethod yX7_turn ∈ eT := lw_t4 212 rfl rfl
theorem q933 : Cond.selects RX7 yX7_turn yX7_turn ∈ eT := lw_t4 213 rfl rfl
theorem q934 : Cond.code yX7_turn cX7_turn 6 (some .int) ∈ eT := lw_t4 214 rfl rfl
theorem q935 : Cond.methodLink RL 60 yX7_days ∈ eT := lw_t4 215 rfl rfl
theorem q936 : Cond.instanceMethod yX7_days ∈ eT := lw_t4 216 rfl rfl
theorem q937 : Cond.selects RX7 yX7_days yX7_days ∈ eT := lw_t4 217 rfl rfl
theorem q938 : Cond.code yX7_days cX7_days 2 (some .int) ∈ eT := lw_t4 218 rfl rfl
theorem q939 : Cond.methodLink RX7 141 yX7_payIn ∈ eT := lw_t4 219 rfl rfl
theorem q940 : Cond.static yX7_payIn ∈ eT := lw_t4 220 rfl rfl
theorem q941 : Cond.code yX7_payIn cX7_payIn 3 (some .int) ∈ eT := lw_t4 221 rfl rfl
theorem q942 : Cond.methodLink RL 64 yX7_graveThen ∈ eT := lw_t4 222 rfl rfl
theorem q943 : Cond.instanceMethod yX7_graveThen ∈ eT := lw_t4 223 rfl rfl
theorem q944 : Cond.selects RX7 yX7_graveThen yX7_graveThen ∈ eT := lw_t4 224 rfl rfl
theorem q945 : Cond.code yX7_graveThen cX7_graveThen 5 (some .int) ∈ eT := lw_t4 225 rfl rfl
theorem q946 : Cond.methodLink RX7 145 yX7_takes ∈ eT := lw_t4 226 rfl rfl
theorem q948 : Cond.instanceMethod yX7_takes ∈ eT := lw_t4 228 rfl rfl
theorem q949 : Cond.code yX7_takes cX7_takes 2 none ∈ eT := lw_t4 229 rfl rfl
theorem q950 : Cond.methodLink RL 68 yX7_griefThen ∈ eT := lw_t4 230 rfl rfl
theorem q951 : Cond.instanceMethod yX7_griefThen ∈ eT := lw_t4 231 rfl rfl
theorem q952 : Cond.selects RX7 yX7_griefThen yX7_griefThen ∈ eT := lw_t4 232 rfl rfl
theorem q953 : Cond.code yX7_griefThen cX7_griefThen 4 (some .int) ∈ eT := lw_t4 233 rfl rfl
theorem q954 : Cond.methodLink RL 72 yX7_payThen ∈ eT := lw_t4 234 rfl rfl
theorem q955 : Cond.instanceMethod yX7_payThen ∈ eT := lw_t4 235 rfl rfl
theorem q956 : Cond.selects RX7 yX7_payThen yX7_payThen ∈ eT := lw_t4 236 rfl rfl
theorem q957 : Cond.code yX7_payThen cX7_payThen 3 (some .int) ∈ eT := lw_t4 237 rfl rfl
theorem q958 : Cond.methodLink RL 76 yX7_deep ∈ eT := lw_t4 238 rfl rfl
theorem q959 : Cond.instanceMethod yX7_deep ∈ eT := lw_t4 239 rfl rfl
theorem q960 : Cond.selects RX7 yX7_deep yX7_deep ∈ eT := lw_t5 0 rfl rfl
theorem q961 : Cond.code yX7_deep cX7_deep 5 (some .int) ∈ eT := lw_t5 1 rfl rfl
theorem q962 : Cond.methodLink RL 80 yX7_first ∈ eT := lw_t5 2 rfl rfl
theorem q963 : Cond.instanceMethod yX7_first ∈ eT := lw_t5 3 rfl rfl
theorem q964 : Cond.selects RX7 yX7_first yX7_first ∈ eT := lw_t5 4 rfl rfl
theorem q965 : Cond.code yX7_first cX7_first 2 (some .int) ∈ eT := lw_t5 5 rfl rfl
theorem q966 : Cond.methodLink RX7 149 yX7_firstFoot ∈ eT := lw_t5 6 rfl rfl
theorem q968 : Cond.instanceMethod yX7_firstFoot ∈ eT := lw_t5 8 rfl rfl
theorem q969 : Cond.code yX7_firstFoot cX7_firstFoot 4 (some .int) ∈ eT := lw_t5 9 rfl rfl
theorem q970 : Cond.methodLink RX7 152 yX7_dry ∈ eT := lw_t5 10 rfl rfl
theorem q972 : Cond.instanceMethod yX7_dry ∈ eT := lw_t5 12 rfl rfl
theorem q973 : Cond.code yX7_dry cX7_dry 4 (some .int) ∈ eT := lw_t5 13 rfl rfl
theorem q974 : Cond.methodLink RX7 155 yX7_extreme ∈ eT := lw_t5 14 rfl rfl
theorem q976 : Cond.instanceMethod yX7_extreme ∈ eT := lw_t5 16 rfl rfl
theorem q977 : Cond.code yX7_extreme cX7_extreme 4 (some .int) ∈ eT := lw_t5 17 rfl rfl
theorem q978 : Cond.methodLink RL 84 yX7_seat ∈ eT := lw_t5 18 rfl rfl
theorem q979 : Cond.instanceMethod yX7_seat ∈ eT := lw_t5 19 rfl rfl
theorem q980 : Cond.selects RX7 yX7_seat yX7_seat ∈ eT := lw_t5 20 rfl rfl
theorem q981 : Cond.code yX7_seat cX7_seat 2 (some .int) ∈ eT := lw_t5 21 rfl rfl
theorem q982 : Cond.methodLink RX7 164 yX7_seats ∈ eT := lw_t5 22 rfl rfl
theorem q984 : Cond.instanceMethod yX7_seats ∈ eT := lw_t5 24 rfl rfl
theorem q985 : Cond.code yX7_seats cX7_seats 4 none ∈ eT := lw_t5 25 rfl rfl
theorem q986 : Cond.methodLink RX7 158 yX7_inchesGiven ∈ eT := lw_t5 26 rfl rfl
theorem q988 : Cond.instanceMethod yX7_inchesGiven ∈ eT := lw_t5 28 rfl rfl
theorem q989 : Cond.code yX7_inchesGiven cX7_inchesGiven 3 (some .int) ∈ eT := lw_t5 29 rfl rfl
theorem q990 : Cond.methodLink RL 88 yX7_fewest ∈ eT := lw_t5 30 rfl rfl
theorem q991 : Cond.instanceMethod yX7_fewest ∈ eT := lw_t5 31 rfl rfl
theorem q992 : Cond.selects RX7 yX7_fewest yX7_fewest ∈ eT := lw_t5 32 rfl rfl
theorem q993 : Cond.code yX7_fewest cX7_fewest 7 (some .int) ∈ eT := lw_t5 33 rfl rfl
theorem q994 : Cond.methodLink RX7 170 yX7_bits ∈ eT := lw_t5 34 rfl rfl
theorem q995 : Cond.static yX7_bits ∈ eT := lw_t5 35 rfl rfl
theorem q996 : Cond.code yX7_bits cX7_bits 3 (some .int) ∈ eT := lw_t5 36 rfl rfl
theorem q997 : Cond.methodLink RX7 173 yX7_setsAlone ∈ eT := lw_t5 37 rfl rfl
theorem q999 : Cond.instanceMethod yX7_setsAlone ∈ eT := lw_t5 39 rfl rfl
theorem q1000 : Cond.code yX7_setsAlone cX7_setsAlone 4 none ∈ eT := lw_t5 40 rfl rfl
theorem q1001 : Cond.methodLink RX7 167 yX7_has ∈ eT := lw_t5 41 rfl rfl
theorem q1002 : Cond.static yX7_has ∈ eT := lw_t5 42 rfl rfl
theorem q1003 : Cond.code yX7_has cX7_has 2 (some .boolean) ∈ eT := lw_t5 43 rfl rfl
theorem q1004 : Cond.methodLink RL 92 yX7_tell ∈ eT := lw_t5 44 rfl rfl
theorem q1005 : Cond.instanceMethod yX7_tell ∈ eT := lw_t5 45 rfl rfl
theorem q1006 : Cond.selects RX7 yX7_tell yX7_tell ∈ eT := lw_t5 46 rfl rfl
theorem q1007 : Cond.code yX7_tell cX7_tell 6 (some .int) ∈ eT := lw_t5 47 rfl rfl
theorem q1008 : Cond.methodLink RX7 180 yX7_inchesNow ∈ eT := lw_t5 48 rfl rfl
theorem q1010 : Cond.instanceMethod yX7_inchesNow ∈ eT := lw_t5 50 rfl rfl
theorem q1011 : Cond.code yX7_inchesNow cX7_inchesNow 2 (some .int) ∈ eT := lw_t5 51 rfl rfl
theorem q1012 : Cond.methodLink RX7 177 yX7_inchesIn ∈ eT := lw_t5 52 rfl rfl
theorem q1013 : Cond.static yX7_inchesIn ∈ eT := lw_t5 53 rfl rfl
theorem q1014 : Cond.code yX7_inchesIn cX7_inchesIn 3 (some .int) ∈ eT := lw_t5 54 rfl rfl
theorem q1015 : Cond.methodLink RL 96 yX7_send ∈ eT := lw_t5 55 rfl rfl
theorem q1016 : Cond.instanceMethod yX7_send ∈ eT := lw_t5 56 rfl rfl
theorem q1017 : Cond.selects RX7 yX7_send yX7_send ∈ eT := lw_t5 57 rfl rfl
theorem q1018 : Cond.code yX7_send cX7_send 9 (some .int) ∈ eT := lw_t5 58 rfl rfl
theorem q1019 : Cond.constant RX7 43 (1000000000) ∈ eT := lw_t5 59 rfl rfl
theorem q1020 : Cond.methodLink RL 100 yX7_bring ∈ eT := lw_t5 60 rfl rfl
theorem q1021 : Cond.instanceMethod yX7_bring ∈ eT := lw_t5 61 rfl rfl
theorem q1022 : Cond.selects RX7 yX7_bring yX7_bring ∈ eT := lw_t5 62 rfl rfl
theorem q1023 : Cond.code yX7_bring cX7_bring 7 (some .int) ∈ eT := lw_t5 63 rfl rfl
theorem q1024 : Cond.methodLink RX7 183 yX7_payNow ∈ eT := lw_t5 64 rfl rfl
theorem q1026 : Cond.instanceMethod yX7_payNow ∈ eT := lw_t5 66 rfl rfl
theorem q1027 : Cond.code yX7_payNow cX7_payNow 2 (some .int) ∈ eT := lw_t5 67 rfl rfl
theorem q1028 : Cond.methodLink RL 104 yX7_change ∈ eT := lw_t5 68 rfl rfl
theorem q1029 : Cond.instanceMethod yX7_change ∈ eT := lw_t5 69 rfl rfl
theorem q1030 : Cond.selects RX7 yX7_change yX7_change ∈ eT := lw_t5 70 rfl rfl
theorem q1031 : Cond.code yX7_change cX7_change 7 (some .int) ∈ eT := lw_t5 71 rfl rfl
theorem q1032 : Cond.methodLink RL 108 yX7_onion ∈ eT := lw_t5 72 rfl rfl
theorem q1033 : Cond.instanceMethod yX7_onion ∈ eT := lw_t5 73 rfl rfl
theorem q1034 : Cond.selects RX7 yX7_onion yX7_onion ∈ eT := lw_t5 74 rfl rfl
theorem q1035 : Cond.code yX7_onion cX7_onion 5 (some .int) ∈ eT := lw_t5 75 rfl rfl
theorem q1036 : Cond.methodLink RX7 186 yX7_noFar ∈ eT := lw_t5 76 rfl rfl
theorem q1038 : Cond.instanceMethod yX7_noFar ∈ eT := lw_t5 78 rfl rfl
theorem q1039 : Cond.code yX7_noFar cX7_noFar 2 (some .int) ∈ eT := lw_t5 79 rfl rfl
theorem q1040 : Cond.methodLink RL 112 yX7_tears ∈ eT := lw_t5 80 rfl rfl
theorem q1041 : Cond.instanceMethod yX7_tears ∈ eT := lw_t5 81 rfl rfl
theorem q1042 : Cond.selects RX7 yX7_tears yX7_tears ∈ eT := lw_t5 82 rfl rfl
theorem q1043 : Cond.code yX7_tears cX7_tears 3 (some .int) ∈ eT := lw_t5 83 rfl rfl
theorem q1044 : Cond.methodLink RL 116 yX7_alone ∈ eT := lw_t5 84 rfl rfl
theorem q1045 : Cond.instanceMethod yX7_alone ∈ eT := lw_t5 85 rfl rfl
theorem q1046 : Cond.selects RX7 yX7_alone yX7_alone ∈ eT := lw_t5 86 rfl rfl
theorem q1047 : Cond.code yX7_alone cX7_alone 4 (some .int) ∈ eT := lw_t5 87 rfl rfl
theorem q1048 : Cond.methodLink RL 120 yX7_level ∈ eT := lw_t5 88 rfl rfl
theorem q1049 : Cond.instanceMethod yX7_level ∈ eT := lw_t5 89 rfl rfl
theorem q1050 : Cond.selects RX7 yX7_level yX7_level ∈ eT := lw_t5 90 rfl rfl
theorem q1051 : Cond.code yX7_level cX7_level 1 (some .int) ∈ eT := lw_t5 91 rfl rfl
theorem q1052 : Cond.methodLink RL 124 yX7_two ∈ eT := lw_t5 92 rfl rfl
theorem q1053 : Cond.instanceMethod yX7_two ∈ eT := lw_t5 93 rfl rfl
theorem q1054 : Cond.selects RX7 yX7_two yX7_two ∈ eT := lw_t5 94 rfl rfl
theorem q1055 : Cond.code yX7_two cX7_two 8 (some .int) ∈ eT := lw_t5 95 rfl rfl
theorem q1056 : Cond.methodLink RX7 189 yX7_ownBy ∈ eT := lw_t5 96 rfl rfl
theorem q1058 : Cond.instanceMethod yX7_ownBy ∈ eT := lw_t5 98 rfl rfl
theorem q1059 : Cond.code yX7_ownBy cX7_ownBy 8 (some .int) ∈ eT := lw_t5 99 rfl rfl
theorem q1060 : Cond.methodLink RL 129 yX7_share ∈ eT := lw_t5 100 rfl rfl
theorem q1061 : Cond.instanceMethod yX7_share ∈ eT := lw_t5 101 rfl rfl
theorem q1062 : Cond.selects RX7 yX7_share yX7_share ∈ eT := lw_t5 102 rfl rfl
theorem q1063 : Cond.code yX7_share cX7_share 3 (some .long) ∈ eT := lw_t5 103 rfl rfl
theorem q1064 : Cond.methodLink RX7 197 yX7_noWide ∈ eT := lw_t5 104 rfl rfl
theorem q1066 : Cond.instanceMethod yX7_noWide ∈ eT := lw_t5 106 rfl rfl
theorem q1067 : Cond.code yX7_noWide cX7_noWide 2 (some .long) ∈ eT := lw_t5 107 rfl rfl
theorem q1068 : Cond.constantLong RX7 48 (4000000000000000000) ∈ eT := lw_t5 108 rfl rfl
theorem q1069 : Cond.methodLink RX7 201 yX7_partOf ∈ eT := lw_t5 109 rfl rfl
theorem q1070 : Cond.static yX7_partOf ∈ eT := lw_t5 110 rfl rfl
theorem q1071 : Cond.code yX7_partOf cX7_partOf 5 (some .long) ∈ eT := lw_t5 111 rfl rfl
theorem q1072 : Cond.methodLink RX7 193 yX7_gcd ∈ eT := lw_t5 112 rfl rfl
theorem q1073 : Cond.static yX7_gcd ∈ eT := lw_t5 113 rfl rfl
theorem q1074 : Cond.code yX7_gcd cX7_gcd 10 (some .long) ∈ eT := lw_t5 114 rfl rfl
theorem q1075 : Cond.methodLink RL 134 yX7_winter ∈ eT := lw_t5 115 rfl rfl
theorem q1076 : Cond.instanceMethod yX7_winter ∈ eT := lw_t5 116 rfl rfl
theorem q1077 : Cond.selects RX7 yX7_winter yX7_winter ∈ eT := lw_t5 117 rfl rfl
theorem q1078 : Cond.code yX7_winter cX7_winter 14 (some .long) ∈ eT := lw_t5 118 rfl rfl
theorem q1079 : Cond.methodLink RL 139 yX7_mean ∈ eT := lw_t5 119 rfl rfl
theorem q1080 : Cond.instanceMethod yX7_mean ∈ eT := lw_t5 120 rfl rfl
theorem q1081 : Cond.selects RX7 yX7_mean yX7_mean ∈ eT := lw_t5 121 rfl rfl
theorem q1082 : Cond.code yX7_mean cX7_mean 2 (some .long) ∈ eT := lw_t5 122 rfl rfl
theorem q1083 : Cond.methodLink RL 143 yX7_whoWept ∈ eT := lw_t5 123 rfl rfl
theorem q1084 : Cond.instanceMethod yX7_whoWept ∈ eT := lw_t5 124 rfl rfl
theorem q1085 : Cond.selects RX7 yX7_whoWept yX7_whoWept ∈ eT := lw_t5 125 rfl rfl
theorem q1086 : Cond.code yX7_whoWept cX7_whoWept 4 (some .int) ∈ eT := lw_t5 126 rfl rfl
theorem q1087 : Cond.methodLink RX7 208 yX7_isDeepSo ∈ eT := lw_t5 127 rfl rfl
theorem q1089 : Cond.instanceMethod yX7_isDeepSo ∈ eT := lw_t5 129 rfl rfl
theorem q1090 : Cond.code yX7_isDeepSo cX7_isDeepSo 4 (some .boolean) ∈ eT := lw_t5 130 rfl rfl
theorem q1091 : Cond.methodLink RL 147 yX7_whatIs ∈ eT := lw_t5 131 rfl rfl
theorem q1092 : Cond.instanceMethod yX7_whatIs ∈ eT := lw_t5 132 rfl rfl
theorem q1093 : Cond.selects RX7 yX7_whatIs yX7_whatIs ∈ eT := lw_t5 133 rfl rfl
theorem q1094 : Cond.code yX7_whatIs cX7_whatIs 6 (some .int) ∈ eT := lw_t5 134 rfl rfl
theorem q1095 : Cond.methodLink RL 151 yX7_row ∈ eT := lw_t5 135 rfl rfl
theorem q1096 : Cond.instanceMethod yX7_row ∈ eT := lw_t5 136 rfl rfl
theorem q1097 : Cond.selects RX7 yX7_row yX7_row ∈ eT := lw_t5 137 rfl rfl
theorem q1098 : Cond.code yX7_row cX7_row 3 (some .int) ∈ eT := lw_t5 138 rfl rfl
theorem q1099 : Cond.methodLink RL 155 yX7_judge ∈ eT := lw_t5 139 rfl rfl
theorem q1100 : Cond.instanceMethod yX7_judge ∈ eT := lw_t5 140 rfl rfl
theorem q1101 : Cond.selects RX7 yX7_judge yX7_judge ∈ eT := lw_t5 141 rfl rfl
theorem q1102 : Cond.code yX7_judge cX7_judge 3 (some .int) ∈ eT := lw_t5 142 rfl rfl
theorem q1103 : Cond.methodLink RL 159 yX7_clear ∈ eT := lw_t5 143 rfl rfl
theorem q1104 : Cond.instanceMethod yX7_clear ∈ eT := lw_t5 144 rfl rfl
theorem q1105 : Cond.selects RX7 yX7_clear yX7_clear ∈ eT := lw_t5 145 rfl rfl
theorem q1106 : Cond.code yX7_clear cX7_clear 2 (some .int) ∈ eT := lw_t5 146 rfl rfl
theorem q1107 : Cond.methodLink RL 163 yX7_lots ∈ eT := lw_t5 147 rfl rfl
theorem q1108 : Cond.instanceMethod yX7_lots ∈ eT := lw_t5 148 rfl rfl
theorem q1109 : Cond.selects RX7 yX7_lots yX7_lots ∈ eT := lw_t5 149 rfl rfl
theorem q1110 : Cond.code yX7_lots cX7_lots 7 (some .int) ∈ eT := lw_t5 150 rfl rfl
theorem q1111 : Cond.methodLink RX7 217 yX7_drawn ∈ eT := lw_t5 151 rfl rfl
theorem q1113 : Cond.instanceMethod yX7_drawn ∈ eT := lw_t5 153 rfl rfl
theorem q1114 : Cond.code yX7_drawn cX7_drawn 2 (some .int) ∈ eT := lw_t5 154 rfl rfl
theorem q1115 : Cond.constant RX7 214 (1664525) ∈ eT := lw_t5 155 rfl rfl
theorem q1116 : Cond.constant RX7 215 (1013904223) ∈ eT := lw_t5 156 rfl rfl
theorem q1117 : Cond.constant RX7 216 (2147483647) ∈ eT := lw_t5 157 rfl rfl
theorem q1118 : Cond.methodLink RL 167 yX7_image ∈ eT := lw_t5 158 rfl rfl
theorem q1119 : Cond.instanceMethod yX7_image ∈ eT := lw_t5 159 rfl rfl
theorem q1120 : Cond.selects RX7 yX7_image yX7_image ∈ eT := lw_t5 160 rfl rfl
theorem q1121 : Cond.code yX7_image cX7_image 1 (some .int) ∈ eT := lw_t5 161 rfl rfl
theorem q1122 : Cond.methodLink RL 171 yX7_on ∈ eT := lw_t5 162 rfl rfl
theorem q1123 : Cond.instanceMethod yX7_on ∈ eT := lw_t5 163 rfl rfl
theorem q1124 : Cond.selects RX7 yX7_on yX7_on ∈ eT := lw_t5 164 rfl rfl
theorem q1125 : Cond.code yX7_on cX7_on 1 (some .int) ∈ eT := lw_t5 165 rfl rfl
theorem q1126 : Cond.methodLink RL 175 yX7_count ∈ eT := lw_t5 166 rfl rfl
theorem q1127 : Cond.instanceMethod yX7_count ∈ eT := lw_t5 167 rfl rfl
theorem q1128 : Cond.selects RX7 yX7_count yX7_count ∈ eT := lw_t5 168 rfl rfl
theorem q1129 : Cond.code yX7_count cX7_count 4 (some .int) ∈ eT := lw_t5 169 rfl rfl
theorem qs_X6_refuse : Cond.selects RX6 yX6_refuse yX6_refuse ∈ eT := lw_sel 0 rfl rfl
theorem qs_X3_firstMisfit : Cond.selects RX3 yX3_firstMisfit yX3_firstMisfit ∈ eT := lw_sel 1 rfl rfl
theorem qs_X3_signAt : Cond.selects RX3 yX3_signAt yX3_signAt ∈ eT := lw_sel 2 rfl rfl
theorem qs_X3_fitsInside : Cond.selects RX3 yX3_fitsInside yX3_fitsInside ∈ eT := lw_sel 3 rfl rfl
theorem qs_X3_statementComes : Cond.selects RX3 yX3_statementComes yX3_statementComes ∈ eT := lw_sel 4 rfl rfl
theorem qs_X3_digitAt : Cond.selects RX3 yX3_digitAt yX3_digitAt ∈ eT := lw_sel 5 rfl rfl
theorem qs_X3_twoDigitsAt : Cond.selects RX3 yX3_twoDigitsAt yX3_twoDigitsAt ∈ eT := lw_sel 6 rfl rfl
theorem qs_X5_graveFootDeeperInMind : Cond.selects RX5 yX5_graveFootDeeperInMind yX5_graveFootDeeperInMind ∈ eT := lw_sel 7 rfl rfl
theorem qs_X4_measureSets : Cond.selects RX4 yX4_measureSets yX4_measureSets ∈ eT := lw_sel 8 rfl rfl
theorem qs_X4_bestWith : Cond.selects RX4 yX4_bestWith yX4_bestWith ∈ eT := lw_sel 9 rfl rfl
theorem qs_X5_depthBy : Cond.selects RX5 yX5_depthBy yX5_depthBy ∈ eT := lw_sel 10 rfl rfl
theorem qs_X5_gain : Cond.selects RX5 yX5_gain yX5_gain ∈ eT := lw_sel 11 rfl rfl
theorem qs_X5_inchesOnDays : Cond.selects RX5 yX5_inchesOnDays yX5_inchesOnDays ∈ eT := lw_sel 12 rfl rfl
theorem qs_X5_fitsRow : Cond.selects RX5 yX5_fitsRow yX5_fitsRow ∈ eT := lw_sel 13 rfl rfl
theorem qs_X6_firstUntrueGrief : Cond.selects RX6 yX6_firstUntrueGrief yX6_firstUntrueGrief ∈ eT := lw_sel 14 rfl rfl
theorem qs_X5_drawChurchyard : Cond.selects RX5 yX5_drawChurchyard yX5_drawChurchyard ∈ eT := lw_sel 15 rfl rfl
theorem qs_X5_drawBelow : Cond.selects RX5 yX5_drawBelow yX5_drawBelow ∈ eT := lw_sel 16 rfl rfl
theorem qs_X7_no : Cond.selects RX7 yX7_no yX7_no ∈ eT := lw_sel 17 rfl rfl
theorem qs_X7_readsStatement : Cond.selects RX7 yX7_readsStatement yX7_readsStatement ∈ eT := lw_sel 18 rfl rfl
theorem qs_X7_here : Cond.selects RX7 yX7_here yX7_here ∈ eT := lw_sel 19 rfl rfl
theorem qs_X7_readsNumber : Cond.selects RX7 yX7_readsNumber yX7_readsNumber ∈ eT := lw_sel 20 rfl rfl
theorem qs_X7_readsKind : Cond.selects RX7 yX7_readsKind yX7_readsKind ∈ eT := lw_sel 21 rfl rfl
theorem qs_X7_isDone : Cond.selects RX7 yX7_isDone yX7_isDone ∈ eT := lw_sel 22 rfl rfl
theorem qs_X7_isMourner : Cond.selects RX7 yX7_isMourner yX7_isMourner ∈ eT := lw_sel 23 rfl rfl
theorem qs_X7_isGrave : Cond.selects RX7 yX7_isGrave yX7_isGrave ∈ eT := lw_sel 24 rfl rfl
theorem qs_X7_weepingAt : Cond.selects RX7 yX7_weepingAt yX7_weepingAt ∈ eT := lw_sel 25 rfl rfl
theorem qs_X7_daysTo : Cond.selects RX7 yX7_daysTo yX7_daysTo ∈ eT := lw_sel 26 rfl rfl
theorem qs_X7_peopleAt : Cond.selects RX7 yX7_peopleAt yX7_peopleAt ∈ eT := lw_sel 27 rfl rfl
theorem qs_X7_takes : Cond.selects RX7 yX7_takes yX7_takes ∈ eT := lw_sel 28 rfl rfl
theorem qs_X7_firstFoot : Cond.selects RX7 yX7_firstFoot yX7_firstFoot ∈ eT := lw_sel 29 rfl rfl
theorem qs_X7_dry : Cond.selects RX7 yX7_dry yX7_dry ∈ eT := lw_sel 30 rfl rfl
theorem qs_X7_extreme : Cond.selects RX7 yX7_extreme yX7_extreme ∈ eT := lw_sel 31 rfl rfl
theorem qs_X7_seats : Cond.selects RX7 yX7_seats yX7_seats ∈ eT := lw_sel 32 rfl rfl
theorem qs_X7_inchesGiven : Cond.selects RX7 yX7_inchesGiven yX7_inchesGiven ∈ eT := lw_sel 33 rfl rfl
theorem qs_X7_setsAlone : Cond.selects RX7 yX7_setsAlone yX7_setsAlone ∈ eT := lw_sel 34 rfl rfl
theorem qs_X7_inchesNow : Cond.selects RX7 yX7_inchesNow yX7_inchesNow ∈ eT := lw_sel 35 rfl rfl
theorem qs_X7_payNow : Cond.selects RX7 yX7_payNow yX7_payNow ∈ eT := lw_sel 36 rfl rfl
theorem qs_X7_noFar : Cond.selects RX7 yX7_noFar yX7_noFar ∈ eT := lw_sel 37 rfl rfl
theorem qs_X7_ownBy : Cond.selects RX7 yX7_ownBy yX7_ownBy ∈ eT := lw_sel 38 rfl rfl
theorem qs_X7_noWide : Cond.selects RX7 yX7_noWide yX7_noWide ∈ eT := lw_sel 39 rfl rfl
theorem qs_X7_isDeepSo : Cond.selects RX7 yX7_isDeepSo yX7_isDeepSo ∈ eT := lw_sel 40 rfl rfl
theorem qs_X7_drawn : Cond.selects RX7 yX7_drawn yX7_drawn ∈ eT := lw_sel 41 rfl rfl
end
section
/-! THE ENGINE: a walk with an abstract state predicate V pc locals stack world, the world as a list of chunks -/
def eN (cc : ByteArray) (pc : Nat) (i : Instr) (n nx : Nat) : Prop := decode cc pc = .ok (i, n) ∧ nx = pc + n
def eB (cc : ByteArray) (pc : Nat) (i : Instr) (off : Int) (n nx tg : Nat) : Prop := decode cc pc = .ok (i, n) ∧ nx = pc + n ∧ (pc : Int) + off = (tg : Int)
abbrev eG : Type := va_G × ClassId × Nat
def cls : List vw_C := [(RX0, TX0, 10), (RX3, TX3, 2), (RX4, TX4, 4), (RX5, TX5, 4), (RX6, TX6, 10), (RX7, TX7, 17)]
def eI (Γ : eG) (a n : Nat) (f : Nat → Int32) : va_W := [(a, .inl (Γ.2.1, n, .inl f))]
def eO (a ci : Nat) (fs : List Value) : va_W := [(a, .inr (ci, fs))]
abbrev eTy (Γ : eG) : List (ClassId × FieldType) := [(Γ.2.1, .int)]
def rm (k : Nat) : Room := { frames := k, cells := 0, slots := 0, locals := 40 * k }
def dgN : Nat → Nat := fun j => match j with
  | 0 => 3125
  | 1 => 625
  | 2 => 125
  | 3 => 25
  | 4 => 5
  | _ => 1
def dgF : Nat → Value := fun j => .int (nI (dgN j))
def eX (Γ : eG) (A : Nat → Prop) (U : State) (H : Heap) : Prop := va_Z RX4 "DIGITS" "[I" (.ref Γ.2.2) A U H ∧ va_T .int Γ.2.2 6 dgF A U H
theorem eX.moved {Γ : eG} {A B : Nat → Prop} {u U : State} {H H1 : Heap} (h : eX Γ A u H) (hvm : u.vm.Alike U.vm) (hq : ∀ a : Nat, a < H.size → ¬ A a → H1[a]? = H[a]?) (hAB : ∀ q, B q → A q) : eX Γ B U H1 :=
  ⟨((va_Z.moved hvm h.1).kept hq).narrow hAB, ((va_T.moved hvm h.2).kept hq).narrow hAB⟩
/-! worlds as lists of chunks -/
theorem e_D_iff {A : Nat → Prop} {ws : va_W} : va_D A ws ↔ (ws.map (fun q => q.1)).Nodup ∧ ∀ q ∈ ws, A q.1 := by
  constructor
  · intro h
    refine ⟨?_, fun q hq => ?_⟩
    · rw [List.Nodup, List.pairwise_iff_getElem]
      intro i j hi hj hij he
      rw [List.length_map] at hi hj
      rw [List.getElem_map, List.getElem_map] at he
      have := h.1 i j _ _ (List.getElem?_eq_getElem hi) (List.getElem?_eq_getElem hj) he
      omega
    · obtain ⟨i, hi⟩ := List.getElem?_of_mem hq
      exact h.2 i q hi
  · rintro ⟨h1, h2⟩
    refine ⟨fun i j p q hi hj hpq => ?_, fun k q hk => h2 q (List.mem_of_getElem? hk)⟩
    rw [List.Nodup, List.pairwise_iff_getElem] at h1
    obtain ⟨li, ei⟩ := List.getElem?_eq_some_iff.mp hi
    obtain ⟨lj, ej⟩ := List.getElem?_eq_some_iff.mp hj
    have li' : i < (ws.map (fun q => q.1)).length := by rw [List.length_map]; exact li
    have lj' : j < (ws.map (fun q => q.1)).length := by rw [List.length_map]; exact lj
    have e : (ws.map (fun q => q.1))[i] = (ws.map (fun q => q.1))[j] := by
      rw [List.getElem_map, List.getElem_map, ei, ej]
      exact hpq
    rcases Nat.lt_trichotomy i j with h | h | h
    · exact absurd e (h1 i j li' lj' h)
    · exact h
    · exact absurd e.symm (h1 j i lj' li' h)
theorem e_P_iff {D : va_G} {cl : List vw_C} {ws : va_W} {H : Heap} : va_P D cl ws H ↔ ∀ q ∈ ws, va_at D cl q H := by
  constructor
  · intro h q hq
    obtain ⟨i, hi⟩ := List.getElem?_of_mem hq
    exact h i q hi
  · intro h k q hk
    exact h q (List.mem_of_getElem? hk)
theorem e_P_perm {D : va_G} {cl : List vw_C} {a b : va_W} {H : Heap} (p : a.Perm b) (h : va_P D cl a H) : va_P D cl b H := e_P_iff.mpr fun q hq => e_P_iff.mp h q (p.mem_iff.mpr hq)
theorem e_D_perm {A : Nat → Prop} {a b : va_W} (p : a.Perm b) (h : va_D A a) : va_D A b := by
  rw [e_D_iff] at h ⊢
  exact ⟨(p.map (fun q => q.1)).nodup_iff.mp h.1, fun q hq => h.2 q (p.mem_iff.mpr hq)⟩
/-- the same cells, as far as their rows are long -/
def weq (a b : va_W) : Prop := a.map (fun q => q.1) = b.map (fun q => q.1) ∧ ∀ (D : va_G) (cl : List vw_C) (H : Heap), va_P D cl a H → va_P D cl b H
theorem weq.rf {a : va_W} : weq a a := ⟨rfl, fun _ _ _ h => h⟩
theorem weq.of {a b : va_W} (h : a = b) : weq a b := by subst h; exact weq.rf
theorem weq.P {a b : va_W} (h : weq a b) {D : va_G} {cl : List vw_C} {H : Heap} (hP : va_P D cl a H) : va_P D cl b H := h.2 D cl H hP
theorem weq.D {a b : va_W} (h : weq a b) {A : Nat → Prop} (hD : va_D A a) : va_D A b := by
  rw [e_D_iff] at hD ⊢
  refine ⟨by rw [← h.1]; exact hD.1, fun q hq => ?_⟩
  have hm : q.1 ∈ b.map (fun q => q.1) := List.mem_map.mpr ⟨q, hq, rfl⟩
  rw [← h.1] at hm
  obtain ⟨z, hz, e⟩ := List.mem_map.mp hm
  rw [← e]
  exact hD.2 z hz
theorem weq.tr {a b c : va_W} (h : weq a b) (h2 : weq b c) : weq a c := ⟨h.1.trans h2.1, fun D cl H hP => h2.2 D cl H (h.2 D cl H hP)⟩
theorem weq.app {a b a2 b2 : va_W} (h : weq a b) (h2 : weq a2 b2) : weq (a ++ a2) (b ++ b2) := by
  refine ⟨by rw [List.map_append, List.map_append, h.1, h2.1], fun D cl H hP => ?_⟩
  have q := e_P_iff.mp hP
  refine e_P_iff.mpr fun z hz => ?_
  rcases List.mem_append.mp hz with hz | hz
  · exact e_P_iff.mp (h.2 D cl H (e_P_iff.mpr fun y hy => q y (List.mem_append_left _ hy))) z hz
  · exact e_P_iff.mp (h2.2 D cl H (e_P_iff.mpr fun y hy => q y (List.mem_append_right _ hy))) z hz
theorem e_arrV {cA : ClassId} {n : Nat} {f f2 : Nat → Int32} (h : ∀ i, i < n → f i = f2 i) : vp_cell cA (n, .inl f) = vp_cell cA (n, .inl f2) := by
  rw [vp_cell_i, vp_cell_i]
  simp only [arrV, Cell.mk.injEq, true_and, and_true]
  apply Array.ext
  · simp
  · intro i h1 h2
    simp at h1 ⊢
    exact h i h1
theorem weq.cons {q : Nat × va_E} {a b : va_W} (h : weq a b) : weq (q :: a) (q :: b) := weq.app (a := [q]) (b := [q]) weq.rf h
theorem weq.arr {x n : Nat} {cy : ClassId} {f f2 : Nat → Int32} {a b : va_W} (hf : ∀ i, i < n → f i = f2 i) (h : weq a b) : weq ((x, .inl (cy, n, .inl f)) :: a) ((x, .inl (cy, n, .inl f2)) :: b) := by
  refine weq.app (a := [_]) (b := [_]) ⟨rfl, fun D cl H hP => e_P_iff.mpr fun z hz => ?_⟩ h
  rw [List.mem_singleton] at hz
  subst hz
  show H[x]? = some (vp_cell cy (n, .inl f2))
  rw [← e_arrV hf]
  exact e_P_iff.mp hP (x, .inl (cy, n, .inl f)) (List.mem_singleton.mpr rfl)
theorem e_flat_perm {a b : List va_W} (p : a.Perm b) : a.flatten.Perm b.flatten := p.flatten
/-- a list by its places, in another order -/
theorem e_by {ws : List va_W} {is : List Nat} (h : is.isPerm (List.range ws.length) = true) : (is.map (fun i => ws.getD i [])).Perm ws := by
  have p := (List.isPerm_iff.mp h).map (fun i => ws.getD i [])
  refine p.trans ?_
  have : (List.range ws.length).map (fun i => ws.getD i []) = ws := by
    apply List.ext_getElem
    · simp
    · intro i h1 h2
      simp [List.getElem?_eq_getElem h2]
  rw [this]
/-- the frame: the callee's chunks by their places isC, the rest by isR -/
theorem e_frame {D : va_G} {cl : List vw_C} {A : Nat → Prop} {ws w0 w1 ws' : List va_W} {H H1 : Heap} (isC isR : List Nat) (hp : (isC ++ isR).isPerm (List.range ws.length) = true) (hC : isC.map (fun i => ws.getD i []) = w0) (hl : ws'.length = ws.length) (hC1 : isC.map (fun i => ws'.getD i []) = w1) (hR : isR.map (fun i => ws.getD i []) = isR.map (fun i => ws'.getD i []))
    (hP : va_P D cl ws.flatten H) (hD : va_D A ws.flatten) (hA : ∀ q, H.size ≤ q → A q) (hk : ∀ q : Nat, q < H.size → ¬ va_A w0.flatten H.size q → H1[q]? = H[q]?) (hP1 : va_P D cl w1.flatten H1) (hD1 : va_D (va_A w0.flatten H.size) w1.flatten) : va_P D cl ws'.flatten H1 ∧ va_D A ws'.flatten := by
  have p0 := e_by hp
  have p1 := e_by (ws := ws') (is := isC ++ isR) (by rw [hl]; exact hp)
  rw [List.map_append, hC] at p0
  rw [List.map_append, hC1, ← hR] at p1
  generalize isR.map (fun i => ws.getD i []) = wr at p0 p1
  have q0 := e_flat_perm p0
  have q1 := e_flat_perm p1
  rw [List.flatten_append] at q0 q1
  have hP' := e_P_iff.mp (e_P_perm q0.symm hP)
  have hD' := e_D_iff.mp (e_D_perm q0.symm hD)
  rw [List.map_append, List.nodup_append] at hD'
  obtain ⟨⟨n0, n1, n2⟩, hA'⟩ := hD'
  have apart : ∀ q ∈ wr.flatten, q.1 < H.size ∧ ¬ va_A w0.flatten H.size q.1 := by
    intro q hq
    have hlt := (hP' q (List.mem_append_right _ hq)).lt
    refine ⟨hlt, fun h => ?_⟩
    rcases h with ⟨k, e, h⟩ | h
    · exact n2 q.1 (List.mem_map.mpr ⟨(q.1, e), List.mem_of_getElem? h, rfl⟩) q.1 (List.mem_map.mpr ⟨q, hq, rfl⟩) rfl
    · omega
  have hF : ∀ q, va_A w0.flatten H.size q → A q := by
    intro q h
    rcases h with ⟨k, e, h⟩ | h
    · exact hA' (q, e) (List.mem_append_left _ (List.mem_of_getElem? h))
    · exact hA q h
  constructor
  · refine e_P_perm q1 (e_P_iff.mpr fun q hq => ?_)
    rcases List.mem_append.mp hq with h | h
    · exact e_P_iff.mp hP1 q h
    · obtain ⟨g1, g2⟩ := apart q h
      exact (hP' q (List.mem_append_right _ h)).kept (hk q.1 g1 g2)
  · refine e_D_perm q1 (e_D_iff.mpr ⟨?_, fun q hq => ?_⟩)
    · have d1 := e_D_iff.mp hD1
      rw [List.map_append, List.nodup_append]
      refine ⟨d1.1, n1, fun a ha b hb hab => ?_⟩
      subst hab
      obtain ⟨x, hx, rfl⟩ := List.mem_map.mp ha
      obtain ⟨z, hz, hxz⟩ := List.mem_map.mp hb
      have := (apart z hz).2
      rw [hxz] at this
      exact this (d1.2 x hx)
    · rcases List.mem_append.mp hq with h | h
      · exact hF q.1 ((e_D_iff.mp hD1).2 q h)
      · exact hA' q (List.mem_append_right _ h)
theorem e_sub {D : va_G} {cl : List vw_C} {A : Nat → Prop} {ws w0 : List va_W} {H : Heap} (isC isR : List Nat) (hp : (isC ++ isR).isPerm (List.range ws.length) = true) (hC : isC.map (fun i => ws.getD i []) = w0) (hP : va_P D cl ws.flatten H) (hD : va_D A ws.flatten) : va_P D cl w0.flatten H ∧ va_D A w0.flatten := by
  have p0 := e_by hp
  rw [List.map_append, hC] at p0
  have q0 := e_flat_perm p0
  rw [List.flatten_append] at q0
  have hP' := e_P_iff.mp (e_P_perm q0.symm hP)
  have hD' := e_D_iff.mp (e_D_perm q0.symm hD)
  rw [List.map_append, List.nodup_append] at hD'
  exact ⟨e_P_iff.mpr fun q hq => hP' q (List.mem_append_left _ hq), e_D_iff.mpr ⟨hD'.1.1, fun q hq => hD'.2 q (List.mem_append_left _ hq)⟩⟩
theorem e_free {A : Nat → Prop} {w0 : va_W} {sz : Nat} (hD : va_D A w0) (hA : ∀ q, sz ≤ q → A q) : ∀ q, va_A w0 sz q → A q := by
  intro q h
  rcases h with ⟨k, e, h⟩ | h
  · exact hD.2 k (q, e) h
  · exact hA q h
/-- a chunk of one cell, read and set -/
theorem e_one {ws : List va_W} : ∀ {j : Nat} {x : Nat × va_E}, ws[j]? = some [x] → ∃ q0, ws.flatten[q0]? = some x ∧ ∀ y, (ws.set j [y]).flatten = ws.flatten.set q0 y := by
  induction ws with
  | nil => intro j x h; simp at h
  | cons c cs ih =>
    intro j x h
    cases j with
    | zero =>
      rw [List.getElem?_cons_zero] at h
      cases h
      exact ⟨0, rfl, fun y => rfl⟩
    | succ j =>
      rw [List.getElem?_cons_succ] at h
      obtain ⟨q0, h1, h2⟩ := ih h
      refine ⟨c.length + q0, ?_, fun y => ?_⟩
      · rw [List.flatten_cons, List.getElem?_append_right (by omega)]
        simpa using h1
      · rw [List.set_cons_succ, List.flatten_cons, h2, List.flatten_cons, List.set_append_right _ _ (by omega)]
        simp
/-! contracts -/
def cE (l : Launch) (Γ : eG) (y : MethodName) (cc : ByteArray) (nL : Nat) (ret : Option FieldType) (k : Nat) (av : List Value) (w0 : List va_W) {S : Type} (post : S → Prop) (res : S → Option Value) (w1 : S → List va_W) : Prop :=
  ∀ sz : Nat, Met l y (.code y cc nL ret :: eT) (rm k) (va_Pc av (fun U => U.heap.size = sz ∧ va_P Γ.1 cls w0.flatten U.heap ∧ va_K Γ.1 cls (eTy Γ) U ∧ va_D (fun _ => True) w0.flatten ∧ eX Γ (va_A w0.flatten sz) U U.heap))
    (fun _ st oc t => (∃ u : S, oc = .returned (res u) ∧ post u ∧ va_P Γ.1 cls (w1 u).flatten t.heap ∧ va_D (va_A w0.flatten sz) (w1 u).flatten) ∧ va_F (va_A w0.flatten sz) st t) 0 0 (va_A w0.flatten sz)
abbrev cD (l : Launch) (Γ : eG) (y : MethodName) (cc : ByteArray) (nL : Nat) (ret : Option FieldType) (k : Nat) (av : List Value) (w0 : List va_W) (res : Option Value) (w1 : List va_W) : Prop :=
  cE l Γ y cc nL ret k av w0 (S := Unit) (fun _ => True) (fun _ => res) (fun _ => w1)
def eV (p : Program) (l : Launch) (e : Env) (R : Room) (s : State) (m : MethodId) (args : Array Value) (below : List Frame) (meth : Method) (c : Code) (cells slots : Nat) (Q : State → Prop) (A : Nat → Prop) (Γ : eG) (nL : Nat) : Nat → List (Nat × Value) → List Value → List va_W → Prop :=
  fun pc lv st ws => ∀ (H : Heap) (locs : List Loc) (ls : Array Slot), lv_has ls nL lv → va_P Γ.1 cls ws.flatten H → va_D A ws.flatten → va_S A s.heap H locs → W p l e R s m args below meth c H locs cells slots Q (F0 m pc ls st)
def eK (l : Launch) (Γ : eG) (own : String) (cc : ByteArray) (nL k : Nat) (V : Nat → List (Nat × Value) → List Value → List va_W → Prop) : Prop :=
  ∃ (p : Program) (e : Env) (R : Room) (s : State) (m : MethodId) (args : Array Value) (below : List Frame) (meth : Method) (c : Code) (cells slots : Nat) (Q : State → Prop) (A : Nat → Prop),
    p.tables.exec = Jvm.exec ∧ c.code = cc ∧ c.maxLocals = nL ∧ s.vm.findClass own = some m.cls ∧ (∀ w ∈ eT, w.before args s = true) ∧ va_K Γ.1 cls (eTy Γ) s ∧ (∀ q, s.heap.size ≤ q → A q) ∧ eX Γ A s s.heap ∧ cells ≤ R.cells ∧ slots ≤ R.slots ∧ k ≤ R.frames ∧ 40 * k ≤ R.locals ∧ V = eV p l e R s m args below meth c cells slots Q A Γ nL
/-- the ends -/
def eRi {S : Type} (cc : ByteArray) (V : Nat → List (Nat × Value) → List Value → List va_W → Prop) (post : S → Prop) (res : S → Option Value) (w1 : S → List va_W) : Prop :=
  ∀ (u : S) {pc nx : Nat} {lv : List (Nat × Value)} {x : Int32} {ws : List va_W}, eN cc pc .ireturn 1 nx → post u → res u = some (.int x) → weq ws.flatten (w1 u).flatten → V pc lv [.int x] ws
def eRz {S : Type} (cc : ByteArray) (V : Nat → List (Nat × Value) → List Value → List va_W → Prop) (post : S → Prop) (res : S → Option Value) (w1 : S → List va_W) : Prop :=
  ∀ (u : S) {pc nx : Nat} {lv : List (Nat × Value)} {x : Int32} {ws : List va_W}, eN cc pc .ireturn 1 nx → narrow .boolean (.int x) = .int x → post u → res u = some (.int x) → weq ws.flatten (w1 u).flatten → V pc lv [.int x] ws
def eRl {S : Type} (cc : ByteArray) (V : Nat → List (Nat × Value) → List Value → List va_W → Prop) (post : S → Prop) (res : S → Option Value) (w1 : S → List va_W) : Prop :=
  ∀ (u : S) {pc nx : Nat} {lv : List (Nat × Value)} {x : Int64} {ws : List va_W}, eN cc pc .lreturn 1 nx → post u → res u = some (.long x) → weq ws.flatten (w1 u).flatten → V pc lv [.long x] ws
def eRa {S : Type} (cc : ByteArray) (V : Nat → List (Nat × Value) → List Value → List va_W → Prop) (post : S → Prop) (res : S → Option Value) (w1 : S → List va_W) : Prop :=
  ∀ (u : S) {pc nx : Nat} {lv : List (Nat × Value)} {x : Nat} {ws : List va_W}, eN cc pc .areturn 1 nx → post u → res u = some (.ref x) → weq ws.flatten (w1 u).flatten → V pc lv [.ref x] ws
def eRv {S : Type} (cc : ByteArray) (V : Nat → List (Nat × Value) → List Value → List va_W → Prop) (post : S → Prop) (res : S → Option Value) (w1 : S → List va_W) : Prop :=
  ∀ (u : S) {pc nx : Nat} {lv : List (Nat × Value)} {ws : List va_W}, eN cc pc .return_ 1 nx → post u → res u = none → weq ws.flatten (w1 u).flatten → V pc lv [] ws
set_option maxHeartbeats 4000000 in
theorem e_entry {l : Launch} {Γ : eG} {y : MethodName} {cc : ByteArray} {nL : Nat} {ret : Option FieldType} {k : Nat} {av : List Value} {w0 : List va_W} {S : Type} {post : S → Prop} {res : S → Option Value} {w1 : S → List va_W} (lv0 : List (Nat × Value)) (hy : plainName y.cls = true) (hav : (lg_sl av).length ≤ nL) (hlv : lv_args 0 av = lv0)
    (body : ∀ (p : Program) (e : Env) (s : State) (m : MethodId) (args : Array Value) (below : List Frame) (meth : Method) (c : Code) (Q : State → Prop) (A : Nat → Prop), p.tables.exec = Jvm.exec → c.code = cc → meth.sig.returnType = ret → meth.locks = false → (∀ (u : S) (v : Option Value) (H : Heap) (locs : List Loc), res u = v → post u → va_P Γ.1 cls (w1 u).flatten H → va_D A (w1 u).flatten → va_S A s.heap H locs → Q = MQ below (fun _ st oc t => (∃ u : S, oc = .returned (res u) ∧ post u ∧ va_P Γ.1 cls (w1 u).flatten t.heap ∧ va_D A (w1 u).flatten) ∧ va_F A st t) args s 0 0 A ∧ (∀ t : State, t.heap = H → ((∃ u : S, Outcome.returned v = .returned (res u) ∧ post u ∧ va_P Γ.1 cls (w1 u).flatten t.heap ∧ va_D A (w1 u).flatten) ∧ va_F A s t)) ∧ ∀ q ∈ locs, A q.base) →
      eK l Γ y.cls cc nL k (eV p l e (rm k) s m args below meth c 0 0 Q A Γ nL) → eV p l e (rm k) s m args below meth c 0 0 Q A Γ nL 0 lv0 [] w0) : cE l Γ y cc nL ret k av w0 post res w1 := by
  intro sz
  refine Met.ofW (cc := cc) (maxL := nL) (ret := ret) hy rfl ?_
  intro p e s m args below meth c s₁ B hml hv
  obtain ⟨rfl, hsz, hP, hK, hD0, hX⟩ := hv
  have hts := atoms_spec (ws := (.code y cc nL ret :: eT)) B.pre
  have hown : s.vm.findClass y.cls = some m.cls := findClass_of_methodNamed B.named
  subst hsz
  have hD := hD0.self (sz := s.heap.size)
  rw [lg_entry_eq]
  have hl := lv_entry av (n := nL) hav
  rw [hlv] at hl
  refine body p e s m _ below meth c _ (va_A w0.flatten s.heap.size) B.exec B.bytes B.returns B.notSynchronized ?_ ?_ s.heap [] _ hl hP hD va_S.rf
  · intro u v H locs hv hp hP1 hD1 hS
    subst hv
    refine ⟨rfl, fun t ht => ⟨⟨u, rfl, hp, by rw [ht]; exact hP1, hD1⟩, hS.F ht⟩, hS.2.2⟩
  · exact ⟨p, e, rm k, s, m, _, below, meth, c, 0, 0, _, _, B.exec, B.bytes, hml, hown, fun w hw => hts w (List.mem_cons_of_mem _ hw), hK, fun q h => Or.inr h, hX, Nat.zero_le _, Nat.zero_le _, Nat.le_refl _, Nat.le_refl _, rfl⟩
section ENT
variable {l : Launch} {Γ : eG} {y : MethodName} {cc : ByteArray} {nL : Nat} {k : Nat} {av : List Value} {w0 : List va_W} {S : Type} {post : S → Prop} {res : S → Option Value} {w1 : S → List va_W}
theorem e_int (lv0 : List (Nat × Value)) (hy : plainName y.cls = true) (hav : (lg_sl av).length ≤ nL) (hlv : lv_args 0 av = lv0) (body : ∀ V, eK l Γ y.cls cc nL k V → eRi cc V post res w1 → V 0 lv0 [] w0) : cE l Γ y cc nL (some .int) k av w0 post res w1 := by
  refine e_entry lv0 hy hav hlv fun p e s m args below meth c Q A hx hb hr hlk hq hK => body _ hK ?_
  intro u pc nx lv x ws d hp hres hw H locs ls hl hP hD hS
  have hP := hw.P hP
  have hD := hw.D hD
  obtain ⟨rfl, h1, h2⟩ := hq u _ H locs hres hp hP hD hS
  exact W.iret (v := x) hx hb hr (fun t ht _ => h1 t ht) h2 d.1 hlk
theorem e_bool (lv0 : List (Nat × Value)) (hy : plainName y.cls = true) (hav : (lg_sl av).length ≤ nL) (hlv : lv_args 0 av = lv0) (body : ∀ V, eK l Γ y.cls cc nL k V → eRz cc V post res w1 → V 0 lv0 [] w0) : cE l Γ y cc nL (some .boolean) k av w0 post res w1 := by
  refine e_entry lv0 hy hav hlv fun p e s m args below meth c Q A hx hb hr hlk hq hK => body _ hK ?_
  intro u pc nx lv x ws d hn hp hres hw H locs ls hl hP hD hS
  have hP := hw.P hP
  have hD := hw.D hD
  obtain ⟨rfl, h1, h2⟩ := hq u _ H locs hres hp hP hD hS
  exact W.zret (v := x) hx hb hr hn (fun t ht _ => h1 t ht) h2 d.1 hlk
theorem e_long (lv0 : List (Nat × Value)) (hy : plainName y.cls = true) (hav : (lg_sl av).length ≤ nL) (hlv : lv_args 0 av = lv0) (body : ∀ V, eK l Γ y.cls cc nL k V → eRl cc V post res w1 → V 0 lv0 [] w0) : cE l Γ y cc nL (some .long) k av w0 post res w1 := by
  refine e_entry lv0 hy hav hlv fun p e s m args below meth c Q A hx hb hr hlk hq hK => body _ hK ?_
  intro u pc nx lv x ws d hp hres hw H locs ls hl hP hD hS
  have hP := hw.P hP
  have hD := hw.D hD
  obtain ⟨rfl, h1, h2⟩ := hq u _ H locs hres hp hP hD hS
  exact W.lret (v := x) hx hb hr (fun t ht _ => h1 t ht) h2 d.1 hlk
theorem e_void (lv0 : List (Nat × Value)) (hy : plainName y.cls = true) (hav : (lg_sl av).length ≤ nL) (hlv : lv_args 0 av = lv0) (body : ∀ V, eK l Γ y.cls cc nL k V → eRv cc V post res w1 → V 0 lv0 [] w0) : cE l Γ y cc nL none k av w0 post res w1 := by
  refine e_entry lv0 hy hav hlv fun p e s m args below meth c Q A hx hb hr hlk hq hK => body _ hK ?_
  intro u pc nx lv ws d hp hres hw H locs ls hl hP hD hS
  have hP := hw.P hP
  have hD := hw.D hD
  obtain ⟨rfl, h1, h2⟩ := hq u _ H locs hres hp hP hD hS
  exact W.vret hx hb hr (fun t ht _ => h1 t ht) h2 d.1 hlk
theorem e_ref {C : String} (lv0 : List (Nat × Value)) (hy : plainName y.cls = true) (hav : (lg_sl av).length ≤ nL) (hlv : lv_args 0 av = lv0) (body : ∀ V, eK l Γ y.cls cc nL k V → eRa cc V post res w1 → V 0 lv0 [] w0) : cE l Γ y cc nL (some (.object C)) k av w0 post res w1 := by
  refine e_entry lv0 hy hav hlv fun p e s m args below meth c Q A hx hb hr hlk hq hK => body _ hK ?_
  intro u pc nx lv x ws d hp hres hw H locs ls hl hP hD hS
  have hP := hw.P hP
  have hD := hw.D hD
  obtain ⟨rfl, h1, h2⟩ := hq u _ H locs hres hp hP hD hS
  exact W.aret (v := .ref x) hx hb hr (Or.inl ⟨C, rfl⟩) (Or.inr ⟨x, rfl⟩) (fun t ht _ => h1 t ht) h2 d.1 hlk
end ENT
end
section
/-! THE RULES: one instruction over V -/
def bz (b : Bool) : Int32 := if b then nI 1 else nI 0
section RULES
variable {l : Launch} {Γ : eG} {own : String} {cc : ByteArray} {nL k : Nat} {V : Nat → List (Nat × Value) → List Value → List va_W → Prop}
variable {pc nx tg : Nat} {lv lv1 : List (Nat × Value)} {st : List Value} {ws : List va_W}
theorem r_iconst (K : eK l Γ own cc nL k V) {n : Int} (d : eN cc pc (.iconst n) 1 nx) (v : Int32) (hv : Int32.ofInt n = v) (g : V nx lv (.int v :: st) ws) : V pc lv st ws := by
  obtain ⟨p, e, R, s, m, args, below, meth, c, cells, slots, Q, A, hx, hb, hml, hown, hts, hK, hA, hX, hce, hse, hfr, hlo, rfl⟩ := K
  intro H locs ls hl hP hD hS
  obtain ⟨d, rfl⟩ := d
  exact lv_iconst hx hb d hv (g H locs ls hl hP hD hS)
theorem r_bipush (K : eK l Γ own cc nL k V) {n : Int} (d : eN cc pc (.bipush n) 2 nx) (v : Int32) (hv : (Int8.ofInt n).toInt32 = v) (g : V nx lv (.int v :: st) ws) : V pc lv st ws := by
  obtain ⟨p, e, R, s, m, args, below, meth, c, cells, slots, Q, A, hx, hb, hml, hown, hts, hK, hA, hX, hce, hse, hfr, hlo, rfl⟩ := K
  intro H locs ls hl hP hD hS
  obtain ⟨d, rfl⟩ := d
  exact lv_bipush hx hb d hv (g H locs ls hl hP hD hS)
theorem r_sipush (K : eK l Γ own cc nL k V) {n : Int} (d : eN cc pc (.sipush n) 3 nx) (v : Int32) (hv : (Int16.ofInt n).toInt32 = v) (g : V nx lv (.int v :: st) ws) : V pc lv st ws := by
  obtain ⟨p, e, R, s, m, args, below, meth, c, cells, slots, Q, A, hx, hb, hml, hown, hts, hK, hA, hX, hce, hse, hfr, hlo, rfl⟩ := K
  intro H locs ls hl hP hD hS
  obtain ⟨d, rfl⟩ := d
  exact lv_sipush hx hb d hv (g H locs ls hl hP hD hS)
theorem r_lconst (K : eK l Γ own cc nL k V) {n : Fin 2} (d : eN cc pc (.lconst n) 1 nx) (v : Int64) (hv : Int64.ofNat (n : Nat) = v) (g : V nx lv (.long v :: st) ws) : V pc lv st ws := by
  obtain ⟨p, e, R, s, m, args, below, meth, c, cells, slots, Q, A, hx, hb, hml, hown, hts, hK, hA, hX, hce, hse, hfr, hlo, rfl⟩ := K
  intro H locs ls hl hP hD hS
  obtain ⟨d, rfl⟩ := d
  exact lv_lconst hx hb d hv (g H locs ls hl hP hD hS)
theorem r_ldc (K : eK l Γ own cc nL k V) {i : Nat} (d : eN cc pc (.ldc i) 2 nx) {v : Int32} (hv : Cond.constant own i v ∈ eT) (g : V nx lv (.int v :: st) ws) : V pc lv st ws := by
  obtain ⟨p, e, R, s, m, args, below, meth, c, cells, slots, Q, A, hx, hb, hml, hown, hts, hK, hA, hX, hce, hse, hfr, hlo, rfl⟩ := K
  intro H locs ls hl hP hD hS
  obtain ⟨d, rfl⟩ := d
  exact lv_ldc hx hb hown (hts _ hv) d (g H locs ls hl hP hD hS)
theorem r_ldcw (K : eK l Γ own cc nL k V) {i : Nat} (d : eN cc pc (.ldc_w i) 3 nx) {v : Int32} (hv : Cond.constant own i v ∈ eT) (g : V nx lv (.int v :: st) ws) : V pc lv st ws := by
  obtain ⟨p, e, R, s, m, args, below, meth, c, cells, slots, Q, A, hx, hb, hml, hown, hts, hK, hA, hX, hce, hse, hfr, hlo, rfl⟩ := K
  intro H locs ls hl hP hD hS
  obtain ⟨d, rfl⟩ := d
  exact lv_ldcw hx hb hown (hts _ hv) d (g H locs ls hl hP hD hS)
theorem r_ldc2 (K : eK l Γ own cc nL k V) {i : Nat} (d : eN cc pc (.ldc2_w i) 3 nx) {v : Int64} (hv : Cond.constantLong own i v ∈ eT) (g : V nx lv (.long v :: st) ws) : V pc lv st ws := by
  obtain ⟨p, e, R, s, m, args, below, meth, c, cells, slots, Q, A, hx, hb, hml, hown, hts, hK, hA, hX, hce, hse, hfr, hlo, rfl⟩ := K
  intro H locs ls hl hP hD hS
  obtain ⟨d, rfl⟩ := d
  exact lv_ldc2 hx hb hown (hts _ hv) d (g H locs ls hl hP hD hS)
theorem r_iload_n (K : eK l Γ own cc nL k V) {i : Fin 4} {x : Int32} (d : eN cc pc (.iload_n i) 1 nx) (j : Nat) (h : lv[j]? = some ((i : Nat), .int x)) (g : V nx lv (.int x :: st) ws) : V pc lv st ws := by
  obtain ⟨p, e, R, s, m, args, below, meth, c, cells, slots, Q, A, hx, hb, hml, hown, hts, hK, hA, hX, hce, hse, hfr, hlo, rfl⟩ := K
  intro H locs ls hl hP hD hS
  obtain ⟨d, rfl⟩ := d
  exact lv_iload_n hx hb d rfl (lv_at hl j h) (g H locs ls hl hP hD hS)
theorem r_iload (K : eK l Γ own cc nL k V) {i : Nat} {x : Int32} (d : eN cc pc (.iload i) 2 nx) (j : Nat) (h : lv[j]? = some (i, .int x)) (g : V nx lv (.int x :: st) ws) : V pc lv st ws := by
  obtain ⟨p, e, R, s, m, args, below, meth, c, cells, slots, Q, A, hx, hb, hml, hown, hts, hK, hA, hX, hce, hse, hfr, hlo, rfl⟩ := K
  intro H locs ls hl hP hD hS
  obtain ⟨d, rfl⟩ := d
  exact lv_iload hx hb d (lv_at hl j h) (g H locs ls hl hP hD hS)
theorem r_lload_n (K : eK l Γ own cc nL k V) {i : Fin 4} {x : Int64} (d : eN cc pc (.lload_n i) 1 nx) (j : Nat) (h : lv[j]? = some ((i : Nat), .long x)) (g : V nx lv (.long x :: st) ws) : V pc lv st ws := by
  obtain ⟨p, e, R, s, m, args, below, meth, c, cells, slots, Q, A, hx, hb, hml, hown, hts, hK, hA, hX, hce, hse, hfr, hlo, rfl⟩ := K
  intro H locs ls hl hP hD hS
  obtain ⟨d, rfl⟩ := d
  exact lv_lload_n hx hb d rfl (lv_at hl j h) (g H locs ls hl hP hD hS)
theorem r_lload (K : eK l Γ own cc nL k V) {i : Nat} {x : Int64} (d : eN cc pc (.lload i) 2 nx) (j : Nat) (h : lv[j]? = some (i, .long x)) (g : V nx lv (.long x :: st) ws) : V pc lv st ws := by
  obtain ⟨p, e, R, s, m, args, below, meth, c, cells, slots, Q, A, hx, hb, hml, hown, hts, hK, hA, hX, hce, hse, hfr, hlo, rfl⟩ := K
  intro H locs ls hl hP hD hS
  obtain ⟨d, rfl⟩ := d
  exact lv_lload hx hb d (lv_at hl j h) (g H locs ls hl hP hD hS)
theorem r_aload_n (K : eK l Γ own cc nL k V) {i : Fin 4} {x : Nat} (d : eN cc pc (.aload_n i) 1 nx) (j : Nat) (h : lv[j]? = some ((i : Nat), .ref x)) (g : V nx lv (.ref x :: st) ws) : V pc lv st ws := by
  obtain ⟨p, e, R, s, m, args, below, meth, c, cells, slots, Q, A, hx, hb, hml, hown, hts, hK, hA, hX, hce, hse, hfr, hlo, rfl⟩ := K
  intro H locs ls hl hP hD hS
  obtain ⟨d, rfl⟩ := d
  exact lv_aload_n hx hb d rfl (lv_at hl j h) (g H locs ls hl hP hD hS)
theorem r_aload (K : eK l Γ own cc nL k V) {i : Nat} {x : Nat} (d : eN cc pc (.aload i) 2 nx) (j : Nat) (h : lv[j]? = some (i, .ref x)) (g : V nx lv (.ref x :: st) ws) : V pc lv st ws := by
  obtain ⟨p, e, R, s, m, args, below, meth, c, cells, slots, Q, A, hx, hb, hml, hown, hts, hK, hA, hX, hce, hse, hfr, hlo, rfl⟩ := K
  intro H locs ls hl hP hD hS
  obtain ⟨d, rfl⟩ := d
  exact lv_aload hx hb d (lv_at hl j h) (g H locs ls hl hP hD hS)
theorem r_istore_n (K : eK l Γ own cc nL k V) {iF : Fin 4} {i : Nat} {x : Int32} (d : eN cc pc (.istore_n iF) 1 nx) (hi : (iF : Nat) = i) (hn : i < nL) (hl1 : (i, Value.int x) :: lv.filter (fun q => !(q.1 == i) && !(q.1 + 1 == i && q.2.category == 2)) = lv1) (g : V nx lv1 st ws) : V pc lv (.int x :: st) ws := by
  obtain ⟨p, e, R, s, m, args, below, meth, c, cells, slots, Q, A, hx, hb, hml, hown, hts, hK, hA, hX, hce, hse, hfr, hlo, rfl⟩ := K
  intro H locs ls hl hP hD hS
  obtain ⟨d, rfl⟩ := d
  exact lv_istore_n hx hb d hi hl hn hl1 (fun ls hl => (g H locs ls hl hP hD hS))
theorem r_istore (K : eK l Γ own cc nL k V) {i : Nat} {x : Int32} (d : eN cc pc (.istore i) 2 nx) (hn : i < nL) (hl1 : (i, Value.int x) :: lv.filter (fun q => !(q.1 == i) && !(q.1 + 1 == i && q.2.category == 2)) = lv1) (g : V nx lv1 st ws) : V pc lv (.int x :: st) ws := by
  obtain ⟨p, e, R, s, m, args, below, meth, c, cells, slots, Q, A, hx, hb, hml, hown, hts, hK, hA, hX, hce, hse, hfr, hlo, rfl⟩ := K
  intro H locs ls hl hP hD hS
  obtain ⟨d, rfl⟩ := d
  exact lv_istore hx hb d hl hn hl1 (fun ls hl => (g H locs ls hl hP hD hS))
theorem r_astore_n (K : eK l Γ own cc nL k V) {iF : Fin 4} {i : Nat} {x : Nat} (d : eN cc pc (.astore_n iF) 1 nx) (hi : (iF : Nat) = i) (hn : i < nL) (hl1 : (i, Value.ref x) :: lv.filter (fun q => !(q.1 == i) && !(q.1 + 1 == i && q.2.category == 2)) = lv1) (g : V nx lv1 st ws) : V pc lv (.ref x :: st) ws := by
  obtain ⟨p, e, R, s, m, args, below, meth, c, cells, slots, Q, A, hx, hb, hml, hown, hts, hK, hA, hX, hce, hse, hfr, hlo, rfl⟩ := K
  intro H locs ls hl hP hD hS
  obtain ⟨d, rfl⟩ := d
  exact lv_astore_n hx hb d hi hl hn hl1 (fun ls hl => (g H locs ls hl hP hD hS))
theorem r_astore (K : eK l Γ own cc nL k V) {i : Nat} {x : Nat} (d : eN cc pc (.astore i) 2 nx) (hn : i < nL) (hl1 : (i, Value.ref x) :: lv.filter (fun q => !(q.1 == i) && !(q.1 + 1 == i && q.2.category == 2)) = lv1) (g : V nx lv1 st ws) : V pc lv (.ref x :: st) ws := by
  obtain ⟨p, e, R, s, m, args, below, meth, c, cells, slots, Q, A, hx, hb, hml, hown, hts, hK, hA, hX, hce, hse, hfr, hlo, rfl⟩ := K
  intro H locs ls hl hP hD hS
  obtain ⟨d, rfl⟩ := d
  exact lv_astore hx hb d hl hn hl1 (fun ls hl => (g H locs ls hl hP hD hS))
theorem r_lstore_n (K : eK l Γ own cc nL k V) {iF : Fin 4} {i : Nat} {x : Int64} (d : eN cc pc (.lstore_n iF) 1 nx) (hi : (iF : Nat) = i) (hn : i + 1 < nL) (hl1 : (i, Value.long x) :: lv.filter (fun q => !(q.1 == i) && (!(q.1 == i + 1) && !(q.1 + 1 == i && q.2.category == 2))) = lv1) (g : V nx lv1 st ws) : V pc lv (.long x :: st) ws := by
  obtain ⟨p, e, R, s, m, args, below, meth, c, cells, slots, Q, A, hx, hb, hml, hown, hts, hK, hA, hX, hce, hse, hfr, hlo, rfl⟩ := K
  intro H locs ls hl hP hD hS
  obtain ⟨d, rfl⟩ := d
  exact lv_lstore_n hx hb d hi hl hn hl1 (fun ls hl => (g H locs ls hl hP hD hS))
theorem r_lstore (K : eK l Γ own cc nL k V) {i : Nat} {x : Int64} (d : eN cc pc (.lstore i) 2 nx) (hn : i + 1 < nL) (hl1 : (i, Value.long x) :: lv.filter (fun q => !(q.1 == i) && (!(q.1 == i + 1) && !(q.1 + 1 == i && q.2.category == 2))) = lv1) (g : V nx lv1 st ws) : V pc lv (.long x :: st) ws := by
  obtain ⟨p, e, R, s, m, args, below, meth, c, cells, slots, Q, A, hx, hb, hml, hown, hts, hK, hA, hX, hce, hse, hfr, hlo, rfl⟩ := K
  intro H locs ls hl hP hD hS
  obtain ⟨d, rfl⟩ := d
  exact lv_lstore hx hb d hl hn hl1 (fun ls hl => (g H locs ls hl hP hD hS))
theorem r_iinc (K : eK l Γ own cc nL k V) {i : Nat} {n : Int} {x : Int32} (d : eN cc pc (.iinc i n) 3 nx) (j : Nat) (v : Int32) (hj : lv[j]? = some (i, .int x)) (hv : x + Int32.ofInt n = v) (hn : i < nL) (hl1 : (i, Value.int v) :: lv.filter (fun q => !(q.1 == i) && !(q.1 + 1 == i && q.2.category == 2)) = lv1) (g : V nx lv1 st ws) : V pc lv st ws := by
  obtain ⟨p, e, R, s, m, args, below, meth, c, cells, slots, Q, A, hx, hb, hml, hown, hts, hK, hA, hX, hce, hse, hfr, hlo, rfl⟩ := K
  intro H locs ls hl hP hD hS
  obtain ⟨d, rfl⟩ := d
  exact lv_iinc (k := j) hx hb d hl hj hv hn hl1 (fun ls hl => (g H locs ls hl hP hD hS))
theorem r_iadd (K : eK l Γ own cc nL k V) {x y : Int32} (d : eN cc pc .iadd 1 nx) (g : V nx lv (.int (x + y) :: st) ws) : V pc lv (.int y :: .int x :: st) ws := by
  obtain ⟨p, e, R, s, m, args, below, meth, c, cells, slots, Q, A, hx, hb, hml, hown, hts, hK, hA, hX, hce, hse, hfr, hlo, rfl⟩ := K
  intro H locs ls hl hP hD hS
  obtain ⟨d, rfl⟩ := d
  exact lv_iadd hx hb d (g H locs ls hl hP hD hS)
theorem r_isub (K : eK l Γ own cc nL k V) {x y : Int32} (d : eN cc pc .isub 1 nx) (g : V nx lv (.int (x - y) :: st) ws) : V pc lv (.int y :: .int x :: st) ws := by
  obtain ⟨p, e, R, s, m, args, below, meth, c, cells, slots, Q, A, hx, hb, hml, hown, hts, hK, hA, hX, hce, hse, hfr, hlo, rfl⟩ := K
  intro H locs ls hl hP hD hS
  obtain ⟨d, rfl⟩ := d
  exact lv_isub hx hb d (g H locs ls hl hP hD hS)
theorem r_imul (K : eK l Γ own cc nL k V) {x y : Int32} (d : eN cc pc .imul 1 nx) (g : V nx lv (.int (x * y) :: st) ws) : V pc lv (.int y :: .int x :: st) ws := by
  obtain ⟨p, e, R, s, m, args, below, meth, c, cells, slots, Q, A, hx, hb, hml, hown, hts, hK, hA, hX, hce, hse, hfr, hlo, rfl⟩ := K
  intro H locs ls hl hP hD hS
  obtain ⟨d, rfl⟩ := d
  exact lv_imul hx hb d (g H locs ls hl hP hD hS)
theorem r_iand (K : eK l Γ own cc nL k V) {x y : Int32} (d : eN cc pc .iand 1 nx) (g : V nx lv (.int (x &&& y) :: st) ws) : V pc lv (.int y :: .int x :: st) ws := by
  obtain ⟨p, e, R, s, m, args, below, meth, c, cells, slots, Q, A, hx, hb, hml, hown, hts, hK, hA, hX, hce, hse, hfr, hlo, rfl⟩ := K
  intro H locs ls hl hP hD hS
  obtain ⟨d, rfl⟩ := d
  exact lv_iand hx hb d (g H locs ls hl hP hD hS)
theorem r_ior (K : eK l Γ own cc nL k V) {x y : Int32} (d : eN cc pc .ior 1 nx) (g : V nx lv (.int (x ||| y) :: st) ws) : V pc lv (.int y :: .int x :: st) ws := by
  obtain ⟨p, e, R, s, m, args, below, meth, c, cells, slots, Q, A, hx, hb, hml, hown, hts, hK, hA, hX, hce, hse, hfr, hlo, rfl⟩ := K
  intro H locs ls hl hP hD hS
  obtain ⟨d, rfl⟩ := d
  exact lv_ior hx hb d (g H locs ls hl hP hD hS)
theorem r_ixor (K : eK l Γ own cc nL k V) {x y : Int32} (d : eN cc pc .ixor 1 nx) (g : V nx lv (.int (x ^^^ y) :: st) ws) : V pc lv (.int y :: .int x :: st) ws := by
  obtain ⟨p, e, R, s, m, args, below, meth, c, cells, slots, Q, A, hx, hb, hml, hown, hts, hK, hA, hX, hce, hse, hfr, hlo, rfl⟩ := K
  intro H locs ls hl hP hD hS
  obtain ⟨d, rfl⟩ := d
  exact lv_ixor hx hb d (g H locs ls hl hP hD hS)
theorem r_ishl (K : eK l Γ own cc nL k V) {x y : Int32} (d : eN cc pc .ishl 1 nx) (g : V nx lv (.int (x <<< (y &&& 31)) :: st) ws) : V pc lv (.int y :: .int x :: st) ws := by
  obtain ⟨p, e, R, s, m, args, below, meth, c, cells, slots, Q, A, hx, hb, hml, hown, hts, hK, hA, hX, hce, hse, hfr, hlo, rfl⟩ := K
  intro H locs ls hl hP hD hS
  obtain ⟨d, rfl⟩ := d
  exact lv_ishl hx hb d (g H locs ls hl hP hD hS)
theorem r_ishr (K : eK l Γ own cc nL k V) {x y : Int32} (d : eN cc pc .ishr 1 nx) (g : V nx lv (.int (x >>> (y &&& 31)) :: st) ws) : V pc lv (.int y :: .int x :: st) ws := by
  obtain ⟨p, e, R, s, m, args, below, meth, c, cells, slots, Q, A, hx, hb, hml, hown, hts, hK, hA, hX, hce, hse, hfr, hlo, rfl⟩ := K
  intro H locs ls hl hP hD hS
  obtain ⟨d, rfl⟩ := d
  exact lv_ishr hx hb d (g H locs ls hl hP hD hS)
theorem r_idiv (K : eK l Γ own cc nL k V) {x y : Int32} (d : eN cc pc .idiv 1 nx) (hne : ¬ y = 0) (g : V nx lv (.int (x / y) :: st) ws) : V pc lv (.int y :: .int x :: st) ws := by
  obtain ⟨p, e, R, s, m, args, below, meth, c, cells, slots, Q, A, hx, hb, hml, hown, hts, hK, hA, hX, hce, hse, hfr, hlo, rfl⟩ := K
  intro H locs ls hl hP hD hS
  obtain ⟨d, rfl⟩ := d
  exact lv_idiv hx hb d hne (g H locs ls hl hP hD hS)
theorem r_irem (K : eK l Γ own cc nL k V) {x y : Int32} (d : eN cc pc .irem 1 nx) (hne : ¬ y = 0) (g : V nx lv (.int (x - x / y * y) :: st) ws) : V pc lv (.int y :: .int x :: st) ws := by
  obtain ⟨p, e, R, s, m, args, below, meth, c, cells, slots, Q, A, hx, hb, hml, hown, hts, hK, hA, hX, hce, hse, hfr, hlo, rfl⟩ := K
  intro H locs ls hl hP hD hS
  obtain ⟨d, rfl⟩ := d
  exact lv_irem hx hb d hne (g H locs ls hl hP hD hS)
theorem r_ineg (K : eK l Γ own cc nL k V) {x : Int32} (d : eN cc pc .ineg 1 nx) (g : V nx lv (.int (-x) :: st) ws) : V pc lv (.int x :: st) ws := by
  obtain ⟨p, e, R, s, m, args, below, meth, c, cells, slots, Q, A, hx, hb, hml, hown, hts, hK, hA, hX, hce, hse, hfr, hlo, rfl⟩ := K
  intro H locs ls hl hP hD hS
  obtain ⟨d, rfl⟩ := d
  exact lv_ineg hx hb d (g H locs ls hl hP hD hS)
theorem r_iushr (K : eK l Γ own cc nL k V) {x y : Int32} (d : eN cc pc .iushr 1 nx) (v : Int32) (hv : (x.toUInt32 >>> (y.toUInt32 &&& Int32.toUInt32 31)).toInt32 = v) (g : V nx lv (.int v :: st) ws) : V pc lv (.int y :: .int x :: st) ws := by
  obtain ⟨p, e, R, s, m, args, below, meth, c, cells, slots, Q, A, hx, hb, hml, hown, hts, hK, hA, hX, hce, hse, hfr, hlo, rfl⟩ := K
  intro H locs ls hl hP hD hS
  obtain ⟨d, rfl⟩ := d
  exact lv_iushr hx hb d hv (g H locs ls hl hP hD hS)
theorem r_ladd (K : eK l Γ own cc nL k V) {x y : Int64} (d : eN cc pc .ladd 1 nx) (g : V nx lv (.long (x + y) :: st) ws) : V pc lv (.long y :: .long x :: st) ws := by
  obtain ⟨p, e, R, s, m, args, below, meth, c, cells, slots, Q, A, hx, hb, hml, hown, hts, hK, hA, hX, hce, hse, hfr, hlo, rfl⟩ := K
  intro H locs ls hl hP hD hS
  obtain ⟨d, rfl⟩ := d
  exact lv_ladd hx hb d (g H locs ls hl hP hD hS)
theorem r_lsub (K : eK l Γ own cc nL k V) {x y : Int64} (d : eN cc pc .lsub 1 nx) (g : V nx lv (.long (x - y) :: st) ws) : V pc lv (.long y :: .long x :: st) ws := by
  obtain ⟨p, e, R, s, m, args, below, meth, c, cells, slots, Q, A, hx, hb, hml, hown, hts, hK, hA, hX, hce, hse, hfr, hlo, rfl⟩ := K
  intro H locs ls hl hP hD hS
  obtain ⟨d, rfl⟩ := d
  exact lv_lsub hx hb d (g H locs ls hl hP hD hS)
theorem r_lmul (K : eK l Γ own cc nL k V) {x y : Int64} (d : eN cc pc .lmul 1 nx) (g : V nx lv (.long (x * y) :: st) ws) : V pc lv (.long y :: .long x :: st) ws := by
  obtain ⟨p, e, R, s, m, args, below, meth, c, cells, slots, Q, A, hx, hb, hml, hown, hts, hK, hA, hX, hce, hse, hfr, hlo, rfl⟩ := K
  intro H locs ls hl hP hD hS
  obtain ⟨d, rfl⟩ := d
  exact lv_lmul hx hb d (g H locs ls hl hP hD hS)
theorem r_ldiv (K : eK l Γ own cc nL k V) {x y : Int64} (d : eN cc pc .ldiv 1 nx) (hne : ¬ y = 0) (g : V nx lv (.long (x / y) :: st) ws) : V pc lv (.long y :: .long x :: st) ws := by
  obtain ⟨p, e, R, s, m, args, below, meth, c, cells, slots, Q, A, hx, hb, hml, hown, hts, hK, hA, hX, hce, hse, hfr, hlo, rfl⟩ := K
  intro H locs ls hl hP hD hS
  obtain ⟨d, rfl⟩ := d
  exact lv_ldiv hx hb d hne (g H locs ls hl hP hD hS)
theorem r_lrem (K : eK l Γ own cc nL k V) {x y : Int64} (d : eN cc pc .lrem 1 nx) (hne : ¬ y = 0) (g : V nx lv (.long (x - x / y * y) :: st) ws) : V pc lv (.long y :: .long x :: st) ws := by
  obtain ⟨p, e, R, s, m, args, below, meth, c, cells, slots, Q, A, hx, hb, hml, hown, hts, hK, hA, hX, hce, hse, hfr, hlo, rfl⟩ := K
  intro H locs ls hl hP hD hS
  obtain ⟨d, rfl⟩ := d
  exact lv_lrem hx hb d hne (g H locs ls hl hP hD hS)
theorem r_i2l (K : eK l Γ own cc nL k V) {x : Int32} (d : eN cc pc .i2l 1 nx) (g : V nx lv (.long x.toInt64 :: st) ws) : V pc lv (.int x :: st) ws := by
  obtain ⟨p, e, R, s, m, args, below, meth, c, cells, slots, Q, A, hx, hb, hml, hown, hts, hK, hA, hX, hce, hse, hfr, hlo, rfl⟩ := K
  intro H locs ls hl hP hD hS
  obtain ⟨d, rfl⟩ := d
  exact lv_i2l hx hb d rfl (g H locs ls hl hP hD hS)
theorem r_lcmp (K : eK l Γ own cc nL k V) {x y : Int64} (d : eN cc pc .lcmp 1 nx) (g : V nx lv (.int (lg_cmp x y) :: st) ws) : V pc lv (.long y :: .long x :: st) ws := by
  obtain ⟨p, e, R, s, m, args, below, meth, c, cells, slots, Q, A, hx, hb, hml, hown, hts, hK, hA, hX, hce, hse, hfr, hlo, rfl⟩ := K
  intro H locs ls hl hP hD hS
  obtain ⟨d, rfl⟩ := d
  exact W.lcmp hx hb d (g H locs ls hl hP hD hS)
theorem r_iaddN (K : eK l Γ own cc nL k V) {a b : Nat} (d : eN cc pc .iadd 1 nx) (g : V nx lv (.int (nI (a + b)) :: st) ws) : V pc lv (.int (nI b) :: .int (nI a) :: st) ws := by
  obtain ⟨p, e, R, s, m, args, below, meth, c, cells, slots, Q, A, hx, hb, hml, hown, hts, hK, hA, hX, hce, hse, hfr, hlo, rfl⟩ := K
  intro H locs ls hl hP hD hS
  obtain ⟨d, rfl⟩ := d
  refine lv_iadd hx hb d ?_
  rw [nI_add]
  exact (g H locs ls hl hP hD hS)
theorem r_imulN (K : eK l Γ own cc nL k V) {a b : Nat} (d : eN cc pc .imul 1 nx) (g : V nx lv (.int (nI (a * b)) :: st) ws) : V pc lv (.int (nI b) :: .int (nI a) :: st) ws := by
  obtain ⟨p, e, R, s, m, args, below, meth, c, cells, slots, Q, A, hx, hb, hml, hown, hts, hK, hA, hX, hce, hse, hfr, hlo, rfl⟩ := K
  intro H locs ls hl hP hD hS
  obtain ⟨d, rfl⟩ := d
  refine lv_imul hx hb d ?_
  rw [pk_mul]
  exact (g H locs ls hl hP hD hS)
theorem r_isubN (K : eK l Γ own cc nL k V) {a b : Nat} (d : eN cc pc .isub 1 nx) (h : b ≤ a) (g : V nx lv (.int (nI (a - b)) :: st) ws) : V pc lv (.int (nI b) :: .int (nI a) :: st) ws := by
  obtain ⟨p, e, R, s, m, args, below, meth, c, cells, slots, Q, A, hx, hb, hml, hown, hts, hK, hA, hX, hce, hse, hfr, hlo, rfl⟩ := K
  intro H locs ls hl hP hD hS
  obtain ⟨d, rfl⟩ := d
  refine lv_isub hx hb d ?_
  rw [pk_sub h]
  exact (g H locs ls hl hP hD hS)
theorem r_idivN (K : eK l Γ own cc nL k V) {a b : Nat} (d : eN cc pc .idiv 1 nx) (ha : a < 2 ^ 31) (h0 : 0 < b) (hb0 : b < 2 ^ 31) (g : V nx lv (.int (nI (a / b)) :: st) ws) : V pc lv (.int (nI b) :: .int (nI a) :: st) ws := by
  obtain ⟨p, e, R, s, m, args, below, meth, c, cells, slots, Q, A, hx, hb, hml, hown, hts, hK, hA, hX, hce, hse, hfr, hlo, rfl⟩ := K
  intro H locs ls hl hP hD hS
  obtain ⟨d, rfl⟩ := d
  refine lv_idiv hx hb d (nI_ne0 h0 hb0) ?_
  rw [pk_div ha h0 hb0]
  exact (g H locs ls hl hP hD hS)
theorem r_iremN (K : eK l Γ own cc nL k V) {a b : Nat} (d : eN cc pc .irem 1 nx) (ha : a < 2 ^ 31) (h0 : 0 < b) (hb0 : b < 2 ^ 31) (g : V nx lv (.int (nI (a % b)) :: st) ws) : V pc lv (.int (nI b) :: .int (nI a) :: st) ws := by
  obtain ⟨p, e, R, s, m, args, below, meth, c, cells, slots, Q, A, hx, hb, hml, hown, hts, hK, hA, hX, hce, hse, hfr, hlo, rfl⟩ := K
  intro H locs ls hl hP hD hS
  obtain ⟨d, rfl⟩ := d
  refine lv_irem hx hb d (nI_ne0 h0 hb0) ?_
  rw [pk_rem ha h0 hb0]
  exact (g H locs ls hl hP hD hS)
theorem r_iincN (K : eK l Γ own cc nL k V) {i a n : Nat} {z : Int} (d : eN cc pc (.iinc i z) 3 nx) (j : Nat) (hz : z = (n : Int)) (hj : lv[j]? = some (i, .int (nI a))) (hn : i < nL) (hl1 : (i, Value.int (nI (a + n))) :: lv.filter (fun q => !(q.1 == i) && !(q.1 + 1 == i && q.2.category == 2)) = lv1) (g : V nx lv1 st ws) : V pc lv st ws := by
  obtain ⟨p, e, R, s, m, args, below, meth, c, cells, slots, Q, A, hx, hb, hml, hown, hts, hK, hA, hX, hce, hse, hfr, hlo, rfl⟩ := K
  intro H locs ls hl hP hD hS
  obtain ⟨d, rfl⟩ := d
  subst hz
  exact lv_iinc (k := j) hx hb d hl hj (nI_add a n) hn hl1 (fun ls hl => (g H locs ls hl hP hD hS))
theorem r_dup (K : eK l Γ own cc nL k V) {v : Value} (d : eN cc pc .dup 1 nx) (hv : v.category = 1) (g : V nx lv (v :: v :: st) ws) : V pc lv (v :: st) ws := by
  obtain ⟨p, e, R, s, m, args, below, meth, c, cells, slots, Q, A, hx, hb, hml, hown, hts, hK, hA, hX, hce, hse, hfr, hlo, rfl⟩ := K
  intro H locs ls hl hP hD hS
  obtain ⟨d, rfl⟩ := d
  exact lv_dup hx hb d hv (g H locs ls hl hP hD hS)
theorem r_pop (K : eK l Γ own cc nL k V) {v : Value} (d : eN cc pc .pop 1 nx) (hv : v.category = 1) (g : V nx lv st ws) : V pc lv (v :: st) ws := by
  obtain ⟨p, e, R, s, m, args, below, meth, c, cells, slots, Q, A, hx, hb, hml, hown, hts, hK, hA, hX, hce, hse, hfr, hlo, rfl⟩ := K
  intro H locs ls hl hP hD hS
  obtain ⟨d, rfl⟩ := d
  exact lv_pop hx hb d hv (g H locs ls hl hP hD hS)
theorem r_dup2 (K : eK l Γ own cc nL k V) {v w : Value} (d : eN cc pc .dup2 1 nx) (hv : v.category = 1) (hw : w.category = 1) (g : V nx lv (v :: w :: v :: w :: st) ws) : V pc lv (v :: w :: st) ws := by
  obtain ⟨p, e, R, s, m, args, below, meth, c, cells, slots, Q, A, hx, hb, hml, hown, hts, hK, hA, hX, hce, hse, hfr, hlo, rfl⟩ := K
  intro H locs ls hl hP hD hS
  obtain ⟨d, rfl⟩ := d
  exact lv_dup2_11 hx hb d hv hw (g H locs ls hl hP hD hS)
theorem r_if_eq (K : eK l Γ own cc nL k V) {x : Int32} {off : Int} (d : eB cc pc (.ifCond .eq off) off 3 nx tg) (kt : x = 0 → V tg lv st ws) (kf : ¬ x = 0 → V nx lv st ws) : V pc lv (.int x :: st) ws := by
  obtain ⟨p, e, R, s, m, args, below, meth, c, cells, slots, Q, A, hx, hb, hml, hown, hts, hK, hA, hX, hce, hse, hfr, hlo, rfl⟩ := K
  intro H locs ls hl hP hD hS
  obtain ⟨d, rfl, ht⟩ := d
  exact lv_if_eq hx hb d ht (fun h => kt h H locs ls hl hP hD hS) (fun h => kf h H locs ls hl hP hD hS)
theorem r_ic_eq (K : eK l Γ own cc nL k V) {x y : Int32} {off : Int} (d : eB cc pc (.if_icmp .eq off) off 3 nx tg) (kt : x = y → V tg lv st ws) (kf : ¬ x = y → V nx lv st ws) : V pc lv (.int y :: .int x :: st) ws := by
  obtain ⟨p, e, R, s, m, args, below, meth, c, cells, slots, Q, A, hx, hb, hml, hown, hts, hK, hA, hX, hce, hse, hfr, hlo, rfl⟩ := K
  intro H locs ls hl hP hD hS
  obtain ⟨d, rfl, ht⟩ := d
  exact lv_icmp_eq hx hb d ht (fun h => kt h H locs ls hl hP hD hS) (fun h => kf h H locs ls hl hP hD hS)
theorem r_if_ne (K : eK l Γ own cc nL k V) {x : Int32} {off : Int} (d : eB cc pc (.ifCond .ne off) off 3 nx tg) (kt : ¬ x = 0 → V tg lv st ws) (kf : x = 0 → V nx lv st ws) : V pc lv (.int x :: st) ws := by
  obtain ⟨p, e, R, s, m, args, below, meth, c, cells, slots, Q, A, hx, hb, hml, hown, hts, hK, hA, hX, hce, hse, hfr, hlo, rfl⟩ := K
  intro H locs ls hl hP hD hS
  obtain ⟨d, rfl, ht⟩ := d
  exact lv_if_ne hx hb d ht (fun h => kt h H locs ls hl hP hD hS) (fun h => kf h H locs ls hl hP hD hS)
theorem r_ic_ne (K : eK l Γ own cc nL k V) {x y : Int32} {off : Int} (d : eB cc pc (.if_icmp .ne off) off 3 nx tg) (kt : ¬ x = y → V tg lv st ws) (kf : x = y → V nx lv st ws) : V pc lv (.int y :: .int x :: st) ws := by
  obtain ⟨p, e, R, s, m, args, below, meth, c, cells, slots, Q, A, hx, hb, hml, hown, hts, hK, hA, hX, hce, hse, hfr, hlo, rfl⟩ := K
  intro H locs ls hl hP hD hS
  obtain ⟨d, rfl, ht⟩ := d
  exact lv_icmp_ne hx hb d ht (fun h => kt h H locs ls hl hP hD hS) (fun h => kf h H locs ls hl hP hD hS)
theorem r_if_lt (K : eK l Γ own cc nL k V) {x : Int32} {off : Int} (d : eB cc pc (.ifCond .lt off) off 3 nx tg) (kt : x < 0 → V tg lv st ws) (kf : ¬ x < 0 → V nx lv st ws) : V pc lv (.int x :: st) ws := by
  obtain ⟨p, e, R, s, m, args, below, meth, c, cells, slots, Q, A, hx, hb, hml, hown, hts, hK, hA, hX, hce, hse, hfr, hlo, rfl⟩ := K
  intro H locs ls hl hP hD hS
  obtain ⟨d, rfl, ht⟩ := d
  exact lv_if_lt hx hb d ht (fun h => kt h H locs ls hl hP hD hS) (fun h => kf h H locs ls hl hP hD hS)
theorem r_ic_lt (K : eK l Γ own cc nL k V) {x y : Int32} {off : Int} (d : eB cc pc (.if_icmp .lt off) off 3 nx tg) (kt : x < y → V tg lv st ws) (kf : ¬ x < y → V nx lv st ws) : V pc lv (.int y :: .int x :: st) ws := by
  obtain ⟨p, e, R, s, m, args, below, meth, c, cells, slots, Q, A, hx, hb, hml, hown, hts, hK, hA, hX, hce, hse, hfr, hlo, rfl⟩ := K
  intro H locs ls hl hP hD hS
  obtain ⟨d, rfl, ht⟩ := d
  exact lv_icmp_lt hx hb d ht (fun h => kt h H locs ls hl hP hD hS) (fun h => kf h H locs ls hl hP hD hS)
theorem r_if_ge (K : eK l Γ own cc nL k V) {x : Int32} {off : Int} (d : eB cc pc (.ifCond .ge off) off 3 nx tg) (kt : 0 ≤ x → V tg lv st ws) (kf : ¬ 0 ≤ x → V nx lv st ws) : V pc lv (.int x :: st) ws := by
  obtain ⟨p, e, R, s, m, args, below, meth, c, cells, slots, Q, A, hx, hb, hml, hown, hts, hK, hA, hX, hce, hse, hfr, hlo, rfl⟩ := K
  intro H locs ls hl hP hD hS
  obtain ⟨d, rfl, ht⟩ := d
  exact lv_if_ge hx hb d ht (fun h => kt h H locs ls hl hP hD hS) (fun h => kf h H locs ls hl hP hD hS)
theorem r_ic_ge (K : eK l Γ own cc nL k V) {x y : Int32} {off : Int} (d : eB cc pc (.if_icmp .ge off) off 3 nx tg) (kt : y ≤ x → V tg lv st ws) (kf : ¬ y ≤ x → V nx lv st ws) : V pc lv (.int y :: .int x :: st) ws := by
  obtain ⟨p, e, R, s, m, args, below, meth, c, cells, slots, Q, A, hx, hb, hml, hown, hts, hK, hA, hX, hce, hse, hfr, hlo, rfl⟩ := K
  intro H locs ls hl hP hD hS
  obtain ⟨d, rfl, ht⟩ := d
  exact lv_icmp_ge hx hb d ht (fun h => kt h H locs ls hl hP hD hS) (fun h => kf h H locs ls hl hP hD hS)
theorem r_if_gt (K : eK l Γ own cc nL k V) {x : Int32} {off : Int} (d : eB cc pc (.ifCond .gt off) off 3 nx tg) (kt : 0 < x → V tg lv st ws) (kf : ¬ 0 < x → V nx lv st ws) : V pc lv (.int x :: st) ws := by
  obtain ⟨p, e, R, s, m, args, below, meth, c, cells, slots, Q, A, hx, hb, hml, hown, hts, hK, hA, hX, hce, hse, hfr, hlo, rfl⟩ := K
  intro H locs ls hl hP hD hS
  obtain ⟨d, rfl, ht⟩ := d
  exact lv_if_gt hx hb d ht (fun h => kt h H locs ls hl hP hD hS) (fun h => kf h H locs ls hl hP hD hS)
theorem r_ic_gt (K : eK l Γ own cc nL k V) {x y : Int32} {off : Int} (d : eB cc pc (.if_icmp .gt off) off 3 nx tg) (kt : y < x → V tg lv st ws) (kf : ¬ y < x → V nx lv st ws) : V pc lv (.int y :: .int x :: st) ws := by
  obtain ⟨p, e, R, s, m, args, below, meth, c, cells, slots, Q, A, hx, hb, hml, hown, hts, hK, hA, hX, hce, hse, hfr, hlo, rfl⟩ := K
  intro H locs ls hl hP hD hS
  obtain ⟨d, rfl, ht⟩ := d
  exact lv_icmp_gt hx hb d ht (fun h => kt h H locs ls hl hP hD hS) (fun h => kf h H locs ls hl hP hD hS)
theorem r_if_le (K : eK l Γ own cc nL k V) {x : Int32} {off : Int} (d : eB cc pc (.ifCond .le off) off 3 nx tg) (kt : x ≤ 0 → V tg lv st ws) (kf : ¬ x ≤ 0 → V nx lv st ws) : V pc lv (.int x :: st) ws := by
  obtain ⟨p, e, R, s, m, args, below, meth, c, cells, slots, Q, A, hx, hb, hml, hown, hts, hK, hA, hX, hce, hse, hfr, hlo, rfl⟩ := K
  intro H locs ls hl hP hD hS
  obtain ⟨d, rfl, ht⟩ := d
  exact lv_if_le hx hb d ht (fun h => kt h H locs ls hl hP hD hS) (fun h => kf h H locs ls hl hP hD hS)
theorem r_ic_le (K : eK l Γ own cc nL k V) {x y : Int32} {off : Int} (d : eB cc pc (.if_icmp .le off) off 3 nx tg) (kt : x ≤ y → V tg lv st ws) (kf : ¬ x ≤ y → V nx lv st ws) : V pc lv (.int y :: .int x :: st) ws := by
  obtain ⟨p, e, R, s, m, args, below, meth, c, cells, slots, Q, A, hx, hb, hml, hown, hts, hK, hA, hX, hce, hse, hfr, hlo, rfl⟩ := K
  intro H locs ls hl hP hD hS
  obtain ⟨d, rfl, ht⟩ := d
  exact lv_icmp_le hx hb d ht (fun h => kt h H locs ls hl hP hD hS) (fun h => kf h H locs ls hl hP hD hS)
end RULES
section RULESN
variable {l : Launch} {Γ : eG} {own : String} {cc : ByteArray} {nL k : Nat} {V : Nat → List (Nat × Value) → List Value → List va_W → Prop}
variable {pc nx tg : Nat} {lv lv1 : List (Nat × Value)} {st : List Value} {ws : List va_W}
theorem r_ic_eqN (K : eK l Γ own cc nL k V) {a b : Nat} {off : Int} (d : eB cc pc (.if_icmp .eq off) off 3 nx tg) (ha : a < 2 ^ 31) (hb : b < 2 ^ 31) (kt : a = b → V tg lv st ws) (kf : ¬ a = b → V nx lv st ws) : V pc lv (.int (nI b) :: .int (nI a) :: st) ws := r_ic_eq K d (fun h => kt ((nI_eq ha hb).mp h)) (fun h => kf (fun q => h ((nI_eq ha hb).mpr q)))
theorem r_if_eqN (K : eK l Γ own cc nL k V) {a : Nat} {off : Int} (d : eB cc pc (.ifCond .eq off) off 3 nx tg) (ha : a < 2 ^ 31) (kt : a = 0 → V tg lv st ws) (kf : ¬ a = 0 → V nx lv st ws) : V pc lv (.int (nI a) :: st) ws := by
  have hb : 0 < 2 ^ 31 := by decide
  refine r_if_eq K d (fun h => kt ?_) (fun h => kf ?_)
  · rw [← nI_0] at h
    exact (nI_eq ha hb).mp h
  · rw [← nI_0] at h
    exact fun q => h ((nI_eq ha hb).mpr q)
theorem r_ic_neN (K : eK l Γ own cc nL k V) {a b : Nat} {off : Int} (d : eB cc pc (.if_icmp .ne off) off 3 nx tg) (ha : a < 2 ^ 31) (hb : b < 2 ^ 31) (kt : ¬ a = b → V tg lv st ws) (kf : a = b → V nx lv st ws) : V pc lv (.int (nI b) :: .int (nI a) :: st) ws := r_ic_ne K d (fun h => kt (fun q => h ((nI_eq ha hb).mpr q))) (fun h => kf ((nI_eq ha hb).mp h))
theorem r_if_neN (K : eK l Γ own cc nL k V) {a : Nat} {off : Int} (d : eB cc pc (.ifCond .ne off) off 3 nx tg) (ha : a < 2 ^ 31) (kt : ¬ a = 0 → V tg lv st ws) (kf : a = 0 → V nx lv st ws) : V pc lv (.int (nI a) :: st) ws := by
  have hb : 0 < 2 ^ 31 := by decide
  refine r_if_ne K d (fun h => kt ?_) (fun h => kf ?_)
  · rw [← nI_0] at h
    exact fun q => h ((nI_eq ha hb).mpr q)
  · rw [← nI_0] at h
    exact (nI_eq ha hb).mp h
theorem r_ic_ltN (K : eK l Γ own cc nL k V) {a b : Nat} {off : Int} (d : eB cc pc (.if_icmp .lt off) off 3 nx tg) (ha : a < 2 ^ 31) (hb : b < 2 ^ 31) (kt : a < b → V tg lv st ws) (kf : b ≤ a → V nx lv st ws) : V pc lv (.int (nI b) :: .int (nI a) :: st) ws := r_ic_lt K d (fun h => kt ((nI_ltI ha hb).mp h)) (fun h => kf (Nat.not_lt.mp fun q => h ((nI_ltI ha hb).mpr q)))
theorem r_if_ltN (K : eK l Γ own cc nL k V) {a : Nat} {off : Int} (d : eB cc pc (.ifCond .lt off) off 3 nx tg) (ha : a < 2 ^ 31) (kt : a < 0 → V tg lv st ws) (kf : 0 ≤ a → V nx lv st ws) : V pc lv (.int (nI a) :: st) ws := by
  have hb : 0 < 2 ^ 31 := by decide
  refine r_if_lt K d (fun h => kt ?_) (fun h => kf ?_)
  · rw [← nI_0] at h
    exact (nI_ltI ha hb).mp h
  · rw [← nI_0] at h
    exact Nat.not_lt.mp fun q => h ((nI_ltI ha hb).mpr q)
theorem r_ic_geN (K : eK l Γ own cc nL k V) {a b : Nat} {off : Int} (d : eB cc pc (.if_icmp .ge off) off 3 nx tg) (ha : a < 2 ^ 31) (hb : b < 2 ^ 31) (kt : b ≤ a → V tg lv st ws) (kf : a < b → V nx lv st ws) : V pc lv (.int (nI b) :: .int (nI a) :: st) ws := r_ic_ge K d (fun h => kt ((nI_leI hb ha).mp h)) (fun h => kf (Nat.not_le.mp fun q => h ((nI_leI hb ha).mpr q)))
theorem r_if_geN (K : eK l Γ own cc nL k V) {a : Nat} {off : Int} (d : eB cc pc (.ifCond .ge off) off 3 nx tg) (ha : a < 2 ^ 31) (kt : 0 ≤ a → V tg lv st ws) (kf : a < 0 → V nx lv st ws) : V pc lv (.int (nI a) :: st) ws := by
  have hb : 0 < 2 ^ 31 := by decide
  refine r_if_ge K d (fun h => kt ?_) (fun h => kf ?_)
  · rw [← nI_0] at h
    exact (nI_leI hb ha).mp h
  · rw [← nI_0] at h
    exact Nat.not_le.mp fun q => h ((nI_leI hb ha).mpr q)
theorem r_ic_gtN (K : eK l Γ own cc nL k V) {a b : Nat} {off : Int} (d : eB cc pc (.if_icmp .gt off) off 3 nx tg) (ha : a < 2 ^ 31) (hb : b < 2 ^ 31) (kt : b < a → V tg lv st ws) (kf : a ≤ b → V nx lv st ws) : V pc lv (.int (nI b) :: .int (nI a) :: st) ws := r_ic_gt K d (fun h => kt ((nI_ltI hb ha).mp h)) (fun h => kf (Nat.not_lt.mp fun q => h ((nI_ltI hb ha).mpr q)))
theorem r_if_gtN (K : eK l Γ own cc nL k V) {a : Nat} {off : Int} (d : eB cc pc (.ifCond .gt off) off 3 nx tg) (ha : a < 2 ^ 31) (kt : 0 < a → V tg lv st ws) (kf : a ≤ 0 → V nx lv st ws) : V pc lv (.int (nI a) :: st) ws := by
  have hb : 0 < 2 ^ 31 := by decide
  refine r_if_gt K d (fun h => kt ?_) (fun h => kf ?_)
  · rw [← nI_0] at h
    exact (nI_ltI hb ha).mp h
  · rw [← nI_0] at h
    exact Nat.not_lt.mp fun q => h ((nI_ltI hb ha).mpr q)
theorem r_ic_leN (K : eK l Γ own cc nL k V) {a b : Nat} {off : Int} (d : eB cc pc (.if_icmp .le off) off 3 nx tg) (ha : a < 2 ^ 31) (hb : b < 2 ^ 31) (kt : a ≤ b → V tg lv st ws) (kf : b < a → V nx lv st ws) : V pc lv (.int (nI b) :: .int (nI a) :: st) ws := r_ic_le K d (fun h => kt ((nI_leI ha hb).mp h)) (fun h => kf (Nat.not_le.mp fun q => h ((nI_leI ha hb).mpr q)))
theorem r_if_leN (K : eK l Γ own cc nL k V) {a : Nat} {off : Int} (d : eB cc pc (.ifCond .le off) off 3 nx tg) (ha : a < 2 ^ 31) (kt : a ≤ 0 → V tg lv st ws) (kf : 0 < a → V nx lv st ws) : V pc lv (.int (nI a) :: st) ws := by
  have hb : 0 < 2 ^ 31 := by decide
  refine r_if_le K d (fun h => kt ?_) (fun h => kf ?_)
  · rw [← nI_0] at h
    exact (nI_leI ha hb).mp h
  · rw [← nI_0] at h
    exact Nat.not_le.mp fun q => h ((nI_leI ha hb).mpr q)
theorem bz_t : bz true = nI 1 := rfl
theorem bz_f : bz false = nI 0 := rfl
theorem bz_eq (b : Bool) : bz b = 0 ↔ b = false := by cases b <;> decide
theorem bz_n (b : Bool) : narrow .boolean (.int (bz b)) = .int (bz b) := by cases b <;> rfl
theorem r_ifeqB (K : eK l Γ own cc nL k V) {b : Bool} {off : Int} (d : eB cc pc (.ifCond .eq off) off 3 nx tg) (kt : b = false → V tg lv st ws) (kf : b = true → V nx lv st ws) : V pc lv (.int (bz b) :: st) ws := r_if_eq K d (fun h => kt ((bz_eq b).mp h)) (fun h => kf (by cases b; exact absurd rfl h; rfl))
theorem r_ifneB (K : eK l Γ own cc nL k V) {b : Bool} {off : Int} (d : eB cc pc (.ifCond .ne off) off 3 nx tg) (kt : b = true → V tg lv st ws) (kf : b = false → V nx lv st ws) : V pc lv (.int (bz b) :: st) ws := r_if_ne K d (fun h => kt (by cases b; exact absurd rfl h; rfl)) (fun h => kf ((bz_eq b).mp h))
end RULESN
section RULES2
variable {l : Launch} {Γ : eG} {own : String} {cc : ByteArray} {nL k : Nat} {V : Nat → List (Nat × Value) → List Value → List va_W → Prop}
variable {pc nx tg : Nat} {lv lv1 : List (Nat × Value)} {st : List Value} {ws : List va_W}
theorem r_goto (K : eK l Γ own cc nL k V) {off : Int} (d : eB cc pc (.goto off) off 3 nx tg) (g : V tg lv st ws) : V pc lv st ws := by
  obtain ⟨p, e, R, s, m, args, below, meth, c, cells, slots, Q, A, hx, hb, hml, hown, hts, hK, hA, hX, hce, hse, hfr, hlo, rfl⟩ := K
  intro H locs ls hl hP hD hS
  obtain ⟨d, rfl, ht⟩ := d
  exact lv_goto hx hb d ht (g H locs ls hl hP hD hS)
/-- the arms of a switch, from the number v on -/
def swG (V : Nat → List (Nat × Value) → List Value → List va_W → Prop) (lv : List (Nat × Value)) (st : List Value) (ws : List va_W) (x : Int32) : Int → List Nat → Prop
  | _, [] => True
  | v, t :: ts => (x = Int32.ofInt v → V t lv st ws) ∧ swG V lv st ws x (v + 1) ts
theorem swG_at {V : Nat → List (Nat × Value) → List Value → List va_W → Prop} {lv : List (Nat × Value)} {st : List Value} {ws : List va_W} {x : Int32} : ∀ {ts : List Nat} {v : Int} {i t : Nat}, swG V lv st ws x v ts → ts[i]? = some t → x = Int32.ofInt (v + i) → V t lv st ws
  | [], _, _, _, _, h, _ => by simp at h
  | t0 :: ts, v, 0, t, hg, h, hx => by
    rw [List.getElem?_cons_zero] at h
    cases h
    exact hg.1 (by rw [hx]; simp)
  | t0 :: ts, v, i + 1, t, hg, h, hx => by
    rw [List.getElem?_cons_succ] at h
    exact swG_at hg.2 h (by rw [hx]; congr 1; omega)
theorem r_tsw (K : eK l Γ own cc nL k V) {dflt lo hi : Int} {offs : Array Int} {len : Nat} {x : Int32} (d : decode cc pc = .ok (.tableswitch dflt lo hi offs, len)) (ts : List Nat) (td : Nat) (hts0 : offs.toList.map (fun o : Int => (pc : Int) + o) = ts.map (fun t : Nat => (t : Int))) (hlh : lo ≤ hi ∧ hi - lo + 1 = offs.size) (htd : (pc : Int) + dflt = (td : Int)) (g : swG V lv st ws x lo ts) (gd : (x.toInt < lo ∨ hi < x.toInt) → V td lv st ws) : V pc lv (.int x :: st) ws := by
  obtain ⟨p, e, R, s, m, args, below, meth, c, cells, slots, Q, A, hx, hb, hml, hown, hts, hK, hA, hX, hce, hse, hfr, hlo, rfl⟩ := K
  intro H locs ls hl hP hD hS
  by_cases h1 : x.toInt < lo
  · exact lv_tableOut hx hb d (Or.inl h1) htd (gd (Or.inl h1) H locs ls hl hP hD hS)
  by_cases h2 : hi < x.toInt
  · exact lv_tableOut hx hb d (Or.inr h2) htd (gd (Or.inr h2) H locs ls hl hP hD hS)
  have hlt : (x.toInt - lo).toNat < offs.size := by omega
  have ho : offs[(x.toInt - lo).toNat]? = some offs[(x.toInt - lo).toNat] := Array.getElem?_eq_getElem hlt
  have e1 : (ts.map (fun t : Nat => (t : Int)))[(x.toInt - lo).toNat]? = some ((pc : Int) + offs[(x.toInt - lo).toNat]) := by
    rw [← hts0, List.getElem?_map, Array.getElem?_toList, ho]
    rfl
  rw [List.getElem?_map] at e1
  cases ht : ts[(x.toInt - lo).toNat]? with
  | none => rw [ht] at e1; cases e1
  | some t =>
    rw [ht] at e1
    have e2 := Option.some.inj e1
    exact lv_tableIn hx hb d h1 h2 ho e2.symm (swG_at g ht (by rw [show lo + ((x.toInt - lo).toNat : Int) = x.toInt by omega]; exact (Int32.ofInt_toInt x).symm) H locs ls hl hP hD hS)
theorem r_get (K : eK l Γ own cc nL k V) {h ci index n kf : Nat} {fs : List Value} {C ref nm de : String} {T : u_T} {v : Value} (d : eN cc pc (.getfield index) 3 nx) (j : Nat) (hj : ws[j]? = some (eO h ci fs)) (hc : cls[ci]? = some (C, T, n)) (hin : ∀ w ∈ u_ws C T n, w ∈ eT) (hk : kf < n) (hlk : Cond.fieldLink own index ref nm de ∈ eT) (hT : T kf = (ref, nm, de, (T kf).2.2.2)) (hv : fs[kf]? = some v) (g : V nx lv (v :: st) ws) : V pc lv (.ref h :: st) ws := by
  obtain ⟨p, e, R, s, m, args, below, meth, c, cells, slots, Q, A, hx, hb, hml, hown, hts, hK, hA, hX, hce, hse, hfr, hlo, rfl⟩ := K
  intro H locs ls hl hP hD hS
  obtain ⟨d, rfl⟩ := d
  obtain ⟨q0, h1, -⟩ := e_one hj
  have hlk := hts _ hlk
  rw [show ref = (T kf).1 by rw [hT], show nm = (T kf).2.1 by rw [hT], show de = (T kf).2.2.1 by rw [hT]] at hlk
  exact va_get (D := Γ.1) (ci := ci) (v := v) hx hb hts hin hown hK hP q0 h1 hc kf hk hlk (fun _ h9 => h9) hv d (g H locs ls hl hP hD hS)
theorem r_put (K : eK l Γ own cc nL k V) {h ci index n kf : Nat} {fs : List Value} {C ref nm de : String} {T : u_T} {ty : FieldType} {v : Value} {ws1 : List va_W} (d : eN cc pc (.putfield index) 3 nx) (j : Nat) (hj : ws[j]? = some (eO h ci fs)) (hc : cls[ci]? = some (C, T, n)) (hin : ∀ w ∈ u_ws C T n, w ∈ eT) (t0 : Nat → FieldType) (ht0 : ∀ k, k < n → parseFieldDescriptor (T k).2.2.1 = some (t0 k)) (hnm : ∀ a, a < n → ∀ b, b < n → a ≠ b → (T a).2.1 ≠ (T b).2.1) (hk : kf < n) (hlk : Cond.fieldLink own index ref nm de ∈ eT) (hT : T kf = (ref, nm, de, false)) (hty : parseFieldDescriptor de = some ty) (hn : narrow ty v = v) (hf : fits ty v = true) (hlen : kf < fs.length) (hw : ws.set j (eO h ci (fs.set kf v)) = ws1) (g : V nx lv st ws1) : V pc lv (v :: .ref h :: st) ws := by
  obtain ⟨p, e, R, s, m, args, below, meth, c, cells, slots, Q, A, hx, hb, hml, hown, hts, hK, hA, hX, hce, hse, hfr, hlo, rfl⟩ := K
  intro H locs ls hl hP hD hS
  obtain ⟨d, rfl⟩ := d
  obtain ⟨q0, h1, h2⟩ := e_one hj
  have hlk := hts _ hlk
  rw [show ref = (T kf).1 by rw [hT], show nm = (T kf).2.1 by rw [hT], show de = (T kf).2.2.1 by rw [hT]] at hlk
  refine va_put (D := Γ.1) (ci := ci) (v := v) (ty := ty) hx hb hts hin t0 ht0 hnm hown hK hP hD hS q0 h1 hc kf hk hlk (fun _ h9 => h9) (by rw [hT]) (by rw [hT]; exact hty) hn hf hlen d (fun H locs hP hD hS => ?_)
  have e := h2 (h, .inr (ci, fs.set kf v))
  rw [← e] at hP hD
  subst hw
  exact (g H locs ls hl hP hD hS)
theorem r_ald (K : eK l Γ own cc nL k V) {h n : Nat} {f : Nat → Int32} {i : Int32} (d : eN cc pc .iaload 1 nx) (j : Nat) (hj : ws[j]? = some (eI Γ h n f)) (hi : vp_in i n) (g : V nx lv (.int (f i.toNatClampNeg) :: st) ws) : V pc lv (.int i :: .ref h :: st) ws := by
  obtain ⟨p, e, R, s, m, args, below, meth, c, cells, slots, Q, A, hx, hb, hml, hown, hts, hK, hA, hX, hce, hse, hfr, hlo, rfl⟩ := K
  intro H locs ls hl hP hD hS
  obtain ⟨d, rfl⟩ := d
  obtain ⟨q0, h1, -⟩ := e_one hj
  exact va_iald hx hb hK hP q0 0 h1 rfl hi d (g H locs ls hl hP hD hS)
theorem r_aldN (K : eK l Γ own cc nL k V) {h n i : Nat} {f : Nat → Int32} (d : eN cc pc .iaload 1 nx) (j : Nat) (hj : ws[j]? = some (eI Γ h n f)) (hi : i < n) (hn : n < 2 ^ 31) (g : V nx lv (.int (f i) :: st) ws) : V pc lv (.int (nI i) :: .ref h :: st) ws := by
  obtain ⟨p, e, R, s, m, args, below, meth, c, cells, slots, Q, A, hx, hb, hml, hown, hts, hK, hA, hX, hce, hse, hfr, hlo, rfl⟩ := K
  intro H locs ls hl hP hD hS
  obtain ⟨d, rfl⟩ := d
  obtain ⟨q0, h1, -⟩ := e_one hj
  refine va_iald hx hb hK hP q0 0 h1 rfl (vp_in_nI hi hn) d ?_
  rw [nI_clamp (by omega)]
  exact (g H locs ls hl hP hD hS)
theorem r_ast (K : eK l Γ own cc nL k V) {h n : Nat} {f : Nat → Int32} {i x : Int32} {ws1 : List va_W} (d : eN cc pc .iastore 1 nx) (j : Nat) (hj : ws[j]? = some (eI Γ h n f)) (hi : vp_in i n) (hw : ws.set j (eI Γ h n (upd f i.toNatClampNeg x)) = ws1) (g : V nx lv st ws1) : V pc lv (.int x :: .int i :: .ref h :: st) ws := by
  obtain ⟨p, e, R, s, m, args, below, meth, c, cells, slots, Q, A, hx, hb, hml, hown, hts, hK, hA, hX, hce, hse, hfr, hlo, rfl⟩ := K
  intro H locs ls hl hP hD hS
  obtain ⟨d, rfl⟩ := d
  obtain ⟨q0, h1, h2⟩ := e_one hj
  refine va_iast hx hb hK hP hD hS q0 0 h1 rfl hi d (fun H locs hP hD hS => ?_)
  have e := h2 (h, .inl (Γ.2.1, n, .inl (upd f i.toNatClampNeg x)))
  rw [← e] at hP hD
  subst hw
  exact (g H locs ls hl hP hD hS)
theorem r_astN (K : eK l Γ own cc nL k V) {h n i : Nat} {f : Nat → Int32} {x : Int32} {ws1 : List va_W} (d : eN cc pc .iastore 1 nx) (j : Nat) (hj : ws[j]? = some (eI Γ h n f)) (hi : i < n) (hn : n < 2 ^ 31) (hw : ws.set j (eI Γ h n (upd f i x)) = ws1) (g : V nx lv st ws1) : V pc lv (.int x :: .int (nI i) :: .ref h :: st) ws := by
  refine r_ast K d j hj (vp_in_nI hi hn) ?_ g
  rw [nI_clamp (by omega)]
  exact hw
theorem r_len (K : eK l Γ own cc nL k V) {h n : Nat} {f : Nat → Int32} (d : eN cc pc .arraylength 1 nx) (j : Nat) (hj : ws[j]? = some (eI Γ h n f)) (g : V nx lv (.int (nI n) :: st) ws) : V pc lv (.ref h :: st) ws := by
  obtain ⟨p, e, R, s, m, args, below, meth, c, cells, slots, Q, A, hx, hb, hml, hown, hts, hK, hA, hX, hce, hse, hfr, hlo, rfl⟩ := K
  intro H locs ls hl hP hD hS
  obtain ⟨d, rfl⟩ := d
  obtain ⟨q0, h1, -⟩ := e_one hj
  exact va_alen hx hb hK hP q0 0 h1 rfl rfl d (g H locs ls hl hP hD hS)
theorem r_gets (K : eK l Γ own cc nL k V) {index : Nat} (d : eN cc pc (.getstatic index) 3 nx) (hlk : Cond.fieldLink own index RX4 "DIGITS" "[I" ∈ eT) (g : V nx lv (.ref Γ.2.2 :: st) ws) : V pc lv st ws := by
  obtain ⟨p, e, R, s, m, args, below, meth, c, cells, slots, Q, A, hx, hb, hml, hown, hts, hK, hA, hX, hce, hse, hfr, hlo, rfl⟩ := K
  intro H locs ls hl hP hD hS
  obtain ⟨d, rfl⟩ := d
  exact va_gets hx hb hX.1 hS hown (hts _ hlk) (fun _ h9 => h9) d (g H locs ls hl hP hD hS)
theorem r_tald (K : eK l Γ own cc nL k V) {i : Nat} (d : eN cc pc .iaload 1 nx) (hi : i < 6) (g : V nx lv (.int (nI (dgN i)) :: st) ws) : V pc lv (.int (nI i) :: .ref Γ.2.2 :: st) ws := by
  obtain ⟨p, e, R, s, m, args, below, meth, c, cells, slots, Q, A, hx, hb, hml, hown, hts, hK, hA, hX, hce, hse, hfr, hlo, rfl⟩ := K
  intro H locs ls hl hP hD hS
  obtain ⟨d, rfl⟩ := d
  exact va_ti hx hb hX.2 hS (vp_in_nI hi (by decide)) (by rw [nI_clamp (by omega)]; rfl) d (g H locs ls hl hP hD hS)
theorem r_tlen (K : eK l Γ own cc nL k V) (d : eN cc pc .arraylength 1 nx) (g : V nx lv (.int (nI 6) :: st) ws) : V pc lv (.ref Γ.2.2 :: st) ws := by
  obtain ⟨p, e, R, s, m, args, below, meth, c, cells, slots, Q, A, hx, hb, hml, hown, hts, hK, hA, hX, hce, hse, hfr, hlo, rfl⟩ := K
  intro H locs ls hl hP hD hS
  obtain ⟨d, rfl⟩ := d
  exact va_tlen hx hb hX.2 hS rfl d (g H locs ls hl hP hD hS)
theorem r_mmin (K : eK l Γ own cc nL k V) {i : Nat} {x y : Int32} (d : eN cc pc (.invokestatic i) 3 nx) (hlk : Cond.methodLink own i Lib.Math.min.name ∈ eT) (hst : Cond.static Lib.Math.min.name ∈ eT) (hcd : Cond.code Lib.Math.min.name Lib.Math.min.code 2 (some .int) ∈ eT) (hr : (st.map fun v => v.category).sum ≤ 8) (hk : 1 ≤ k) (g : V nx lv (.int (if y < x then y else x) :: st) ws) : V pc lv (.int y :: .int x :: st) ws := by
  obtain ⟨p, e, R, s, m, args, below, meth, c, cells, slots, Q, A, hx, hb, hml, hown, hts, hK, hA, hX, hce, hse, hfr, hlo, rfl⟩ := K
  intro H locs ls hl hP hD hS
  obtain ⟨d, rfl⟩ := d
  exact va_mmin hx hb (hml.trans hl.1.symm) hown (hts _ hlk) (hts _ hst) (hts _ q8) (hts _ hcd) (by omega) (by omega) hce hse d (g H locs ls hl hP hD hS)
theorem r_mmax (K : eK l Γ own cc nL k V) {i : Nat} {x y : Int32} (d : eN cc pc (.invokestatic i) 3 nx) (hlk : Cond.methodLink own i Lib.Math.max.name ∈ eT) (hst : Cond.static Lib.Math.max.name ∈ eT) (hcd : Cond.code Lib.Math.max.name Lib.Math.max.code 2 (some .int) ∈ eT) (hr : (st.map fun v => v.category).sum ≤ 8) (hk : 1 ≤ k) (g : V nx lv (.int (if x < y then y else x) :: st) ws) : V pc lv (.int y :: .int x :: st) ws := by
  obtain ⟨p, e, R, s, m, args, below, meth, c, cells, slots, Q, A, hx, hb, hml, hown, hts, hK, hA, hX, hce, hse, hfr, hlo, rfl⟩ := K
  intro H locs ls hl hP hD hS
  obtain ⟨d, rfl⟩ := d
  exact va_mmax hx hb (hml.trans hl.1.symm) hown (hts _ hlk) (hts _ hst) (hts _ q8) (hts _ hcd) (by omega) (by omega) hce hse d (g H locs ls hl hP hD hS)
theorem r_mmaxL (K : eK l Γ own cc nL k V) {i : Nat} {x y : Int64} (d : eN cc pc (.invokestatic i) 3 nx) (hlk : Cond.methodLink own i Lib.MathLoose.max_long.x ∈ eT) (hst : Cond.static Lib.MathLoose.max_long.x ∈ eT) (hcd : Cond.code Lib.MathLoose.max_long.x Lib.MathLoose.max_long.code 4 (some .long) ∈ eT) (hr : (st.map fun v => v.category).sum ≤ 8) (hk : 1 ≤ k) (g : V nx lv (.long (if y < x then x else y) :: st) ws) : V pc lv (.long y :: .long x :: st) ws := by
  obtain ⟨p, e, R, s, m, args, below, meth, c, cells, slots, Q, A, hx, hb, hml, hown, hts, hK, hA, hX, hce, hse, hfr, hlo, rfl⟩ := K
  intro H locs ls hl hP hD hS
  obtain ⟨d, rfl⟩ := d
  exact va_mmax_long hx hb (hml.trans hl.1.symm) hown (hts _ hlk) (hts _ hst) (hts _ q8) (hts _ hcd) (by omega) (by omega) hce hse d (g H locs ls hl hP hD hS)
theorem r_lv (K : eK l Γ own cc nL k V) (ks : List Nat) (h : lv_pick lv ks = lv1) (g : V pc lv1 st ws) : V pc lv st ws := by
  obtain ⟨p, e, R, s, m, args, below, meth, c, cells, slots, Q, A, hx, hb, hml, hown, hts, hK, hA, hX, hce, hse, hfr, hlo, rfl⟩ := K
  intro H locs ls hl hP hD hS
  exact g H locs ls (lv_sub hl ks h) hP hD hS
theorem r_ws (K : eK l Γ own cc nL k V) {ws1 : List va_W} (h : weq ws.flatten ws1.flatten) (g : V pc lv st ws1) : V pc lv st ws := by
  obtain ⟨p, e, R, s, m, args, below, meth, c, cells, slots, Q, A, hx, hb, hml, hown, hts, hK, hA, hX, hce, hse, hfr, hlo, rfl⟩ := K
  intro H locs ls hl hP hD hS
  have hP := h.P hP
  have hD := h.D hD
  exact (g H locs ls hl hP hD hS)
end RULES2
section RULES3
variable {l : Launch} {Γ : eG} {own : String} {cc : ByteArray} {nL k : Nat} {V : Nat → List (Nat × Value) → List Value → List va_W → Prop}
variable {pc nx tg : Nat} {lv lv1 : List (Nat × Value)} {st : List Value} {ws : List va_W}
theorem r_arr (K : eK l Γ own cc nL k V) {h n : Nat} {f f2 : Nat → Int32} {ws1 : List va_W} (j : Nat) (hj : ws[j]? = some (eI Γ h n f)) (hf : ∀ i, i < n → f i = f2 i) (hw : ws.set j (eI Γ h n f2) = ws1) (g : V pc lv st ws1) : V pc lv st ws := by
  obtain ⟨p, e, R, s, m, args, below, meth, c, cells, slots, Q, A, hx, hb, hml, hown, hts, hK, hA, hX, hce, hse, hfr, hlo, rfl⟩ := K
  intro H locs ls hl hP hD hS
  obtain ⟨q0, h1, h2⟩ := e_one hj
  subst hw
  refine g H locs ls hl ?_ ?_ hS
  · show va_P Γ.1 cls (ws.set j [(h, .inl (Γ.2.1, n, .inl f2))]).flatten H
    rw [h2]
    exact va_P.set hP hD h1 (show H[h]? = some (vp_cell Γ.2.1 (n, .inl f2)) by rw [← e_arrV hf]; exact hP q0 _ h1) (fun q _ => rfl)
  · show va_D A (ws.set j [(h, .inl (Γ.2.1, n, .inl f2))]).flatten
    rw [h2]
    exact hD.set h1
end RULES3
end
