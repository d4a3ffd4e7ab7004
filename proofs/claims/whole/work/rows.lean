section
-- ===== PART A: goes FIRST, ahead of the names: the tables' words, and 'selects' of the private methods out of them =====
/-- a private method of a class that the tables say can be made, by its rows of tables_1 -/
def lw_okq (q : MethodName × Nat) : Prop := (q.1.cls ≠ "java/lang/invoke/MethodHandle" ∧ q.1.cls ≠ "java/lang/invoke/VarHandle") ∧ Cond.instantiable q.1.cls q.2 ∈ tables_1 ∧ Cond.privateMethod q.1 ∈ tables_1 ∧ Cond.instanceMethod q.1 ∈ tables_1
theorem lw_p0 : lw_okq (⟨"TwoSurveys$Reader", "readItem", "(LTwoSurveys$Text;LTwoSurveys$Towns;)Z"⟩, 2) := ⟨⟨by decide +kernel, by decide +kernel⟩, List.mem_of_getElem? (i := 41) (by decide +kernel), List.mem_of_getElem? (i := 278) (by decide +kernel), List.mem_of_getElem? (i := 279) (by decide +kernel)⟩
theorem lw_p1 : lw_okq (⟨"TwoSurveys$Reader", "readNumber", "(LTwoSurveys$Text;)I"⟩, 2) := ⟨⟨by decide +kernel, by decide +kernel⟩, List.mem_of_getElem? (i := 41) (by decide +kernel), List.mem_of_getElem? (i := 289) (by decide +kernel), List.mem_of_getElem? (i := 290) (by decide +kernel)⟩
theorem lw_p2 : lw_okq (⟨"TwoSurveys$Reader", "take", "(ILTwoSurveys$Towns;)Z"⟩, 2) := ⟨⟨by decide +kernel, by decide +kernel⟩, List.mem_of_getElem? (i := 41) (by decide +kernel), List.mem_of_getElem? (i := 297) (by decide +kernel), List.mem_of_getElem? (i := 298) (by decide +kernel)⟩
theorem lw_p3 : lw_okq (⟨"TwoSurveys", "hasMeeting", "(II)Z"⟩, 10) := ⟨⟨by decide +kernel, by decide +kernel⟩, List.mem_of_getElem? (i := 19) (by decide +kernel), List.mem_of_getElem? (i := 414) (by decide +kernel), List.mem_of_getElem? (i := 415) (by decide +kernel)⟩
theorem lw_p4 : lw_okq (⟨"TwoSurveys", "hasStreet", "(II)Z"⟩, 10) := ⟨⟨by decide +kernel, by decide +kernel⟩, List.mem_of_getElem? (i := 19) (by decide +kernel), List.mem_of_getElem? (i := 457) (by decide +kernel), List.mem_of_getElem? (i := 458) (by decide +kernel)⟩
theorem lw_p5 : lw_okq (⟨"TwoSurveys$Pile", "dropOldest", "()V"⟩, 2) := ⟨⟨by decide +kernel, by decide +kernel⟩, List.mem_of_getElem? (i := 105) (by decide +kernel), List.mem_of_getElem? (i := 482) (by decide +kernel), List.mem_of_getElem? (i := 483) (by decide +kernel)⟩
theorem lw_p6 : lw_okq (⟨"TwoSurveys$Matching", "improve", "(LTwoSurveys$Towns;)V"⟩, 7) := ⟨⟨by decide +kernel, by decide +kernel⟩, List.mem_of_getElem? (i := 138) (by decide +kernel), List.mem_of_getElem? (i := 577) (by decide +kernel), List.mem_of_getElem? (i := 578) (by decide +kernel)⟩
theorem lw_p7 : lw_okq (⟨"TwoSurveys$Matching", "support", "(LTwoSurveys$Towns;III)I"⟩, 7) := ⟨⟨by decide +kernel, by decide +kernel⟩, List.mem_of_getElem? (i := 138) (by decide +kernel), List.mem_of_getElem? (i := 582) (by decide +kernel), List.mem_of_getElem? (i := 583) (by decide +kernel)⟩
theorem lw_p8 : lw_okq (⟨"TwoSurveys$Matching", "beliefBefore", "(II)I"⟩, 7) := ⟨⟨by decide +kernel, by decide +kernel⟩, List.mem_of_getElem? (i := 138) (by decide +kernel), List.mem_of_getElem? (i := 588) (by decide +kernel), List.mem_of_getElem? (i := 589) (by decide +kernel)⟩
theorem lw_p9 : lw_okq (⟨"TwoSurveys$Matching", "pairUp", "(I[I[I)I"⟩, 7) := ⟨⟨by decide +kernel, by decide +kernel⟩, List.mem_of_getElem? (i := 138) (by decide +kernel), List.mem_of_getElem? (i := 595) (by decide +kernel), List.mem_of_getElem? (i := 596) (by decide +kernel)⟩
theorem lw_p10 : lw_okq (⟨"TwoSurveys$Matching", "pairUpOne", "(I[I[I)Z"⟩, 7) := ⟨⟨by decide +kernel, by decide +kernel⟩, List.mem_of_getElem? (i := 138) (by decide +kernel), List.mem_of_getElem? (i := 599) (by decide +kernel), List.mem_of_getElem? (i := 600) (by decide +kernel)⟩
theorem lw_p11 : lw_okq (⟨"TwoSurveys", "express", "(LTwoSurveys$Towns;I)V"⟩, 10) := ⟨⟨by decide +kernel, by decide +kernel⟩, List.mem_of_getElem? (i := 19) (by decide +kernel), List.mem_of_getElem? (i := 625) (by decide +kernel), List.mem_of_getElem? (i := 626) (by decide +kernel)⟩
theorem lw_p12 : lw_okq (⟨"TwoSurveys$Way", "findOne", "(LTwoSurveys$Survey;II)Z"⟩, 2) := ⟨⟨by decide +kernel, by decide +kernel⟩, List.mem_of_getElem? (i := 168) (by decide +kernel), List.mem_of_getElem? (i := 635) (by decide +kernel), List.mem_of_getElem? (i := 636) (by decide +kernel)⟩
theorem lw_p13 : lw_okq (⟨"TwoSurveys$Way", "findTwo", "(LTwoSurveys$Survey;II)Z"⟩, 2) := ⟨⟨by decide +kernel, by decide +kernel⟩, List.mem_of_getElem? (i := 168) (by decide +kernel), List.mem_of_getElem? (i := 640) (by decide +kernel), List.mem_of_getElem? (i := 641) (by decide +kernel)⟩
theorem lw_p14 : lw_okq (⟨"TwoSurveys$Transfer", "set", "(III)V"⟩, 6) := ⟨⟨by decide +kernel, by decide +kernel⟩, List.mem_of_getElem? (i := 181) (by decide +kernel), List.mem_of_getElem? (i := 679) (by decide +kernel), List.mem_of_getElem? (i := 680) (by decide +kernel)⟩
theorem lw_p15 : lw_okq (⟨"TwoSurveys$Transfer", "findTriangle", "(LTwoSurveys$Survey;LTwoSurveys$Matching;I)Z"⟩, 6) := ⟨⟨by decide +kernel, by decide +kernel⟩, List.mem_of_getElem? (i := 181) (by decide +kernel), List.mem_of_getElem? (i := 683) (by decide +kernel), List.mem_of_getElem? (i := 684) (by decide +kernel)⟩
def lw_privs_1 : List (MethodName × Nat) := [(⟨"TwoSurveys$Reader", "readItem", "(LTwoSurveys$Text;LTwoSurveys$Towns;)Z"⟩, 2), (⟨"TwoSurveys$Reader", "readNumber", "(LTwoSurveys$Text;)I"⟩, 2), (⟨"TwoSurveys$Reader", "take", "(ILTwoSurveys$Towns;)Z"⟩, 2), (⟨"TwoSurveys", "hasMeeting", "(II)Z"⟩, 10), (⟨"TwoSurveys", "hasStreet", "(II)Z"⟩, 10), (⟨"TwoSurveys$Pile", "dropOldest", "()V"⟩, 2), (⟨"TwoSurveys$Matching", "improve", "(LTwoSurveys$Towns;)V"⟩, 7), (⟨"TwoSurveys$Matching", "support", "(LTwoSurveys$Towns;III)I"⟩, 7), (⟨"TwoSurveys$Matching", "beliefBefore", "(II)I"⟩, 7), (⟨"TwoSurveys$Matching", "pairUp", "(I[I[I)I"⟩, 7), (⟨"TwoSurveys$Matching", "pairUpOne", "(I[I[I)Z"⟩, 7), (⟨"TwoSurveys", "express", "(LTwoSurveys$Towns;I)V"⟩, 10), (⟨"TwoSurveys$Way", "findOne", "(LTwoSurveys$Survey;II)Z"⟩, 2), (⟨"TwoSurveys$Way", "findTwo", "(LTwoSurveys$Survey;II)Z"⟩, 2), (⟨"TwoSurveys$Transfer", "set", "(III)V"⟩, 6), (⟨"TwoSurveys$Transfer", "findTriangle", "(LTwoSurveys$Survey;LTwoSurveys$Matching;I)Z"⟩, 6)]
theorem lw_r1 : ∀ q ∈ lw_privs_1, lw_okq q := List.forall_mem_cons.mpr ⟨lw_p0, List.forall_mem_cons.mpr ⟨lw_p1, List.forall_mem_cons.mpr ⟨lw_p2, List.forall_mem_cons.mpr ⟨lw_p3, List.forall_mem_cons.mpr ⟨lw_p4, List.forall_mem_cons.mpr ⟨lw_p5, List.forall_mem_cons.mpr ⟨lw_p6, List.forall_mem_cons.mpr ⟨lw_p7, List.forall_mem_cons.mpr ⟨lw_p8, List.forall_mem_cons.mpr ⟨lw_p9, List.forall_mem_cons.mpr ⟨lw_p10, List.forall_mem_cons.mpr ⟨lw_p11, List.forall_mem_cons.mpr ⟨lw_p12, List.forall_mem_cons.mpr ⟨lw_p13, List.forall_mem_cons.mpr ⟨lw_p14, List.forall_mem_cons.mpr ⟨lw_p15, fun _ h => absurd h List.not_mem_nil⟩⟩⟩⟩⟩⟩⟩⟩⟩⟩⟩⟩⟩⟩⟩⟩
theorem lw_p16 : lw_okq (⟨"TwoSurveys$Transfer", "blend", "(LTwoSurveys$Towns;LTwoSurveys$Matching;I)V"⟩, 6) := ⟨⟨by decide +kernel, by decide +kernel⟩, List.mem_of_getElem? (i := 181) (by decide +kernel), List.mem_of_getElem? (i := 705) (by decide +kernel), List.mem_of_getElem? (i := 706) (by decide +kernel)⟩
theorem lw_p17 : lw_okq (⟨"TwoSurveys$Transfer", "follow", "(LTwoSurveys$Towns;LTwoSurveys$Matching;II)V"⟩, 6) := ⟨⟨by decide +kernel, by decide +kernel⟩, List.mem_of_getElem? (i := 181) (by decide +kernel), List.mem_of_getElem? (i := 712) (by decide +kernel), List.mem_of_getElem? (i := 713) (by decide +kernel)⟩
theorem lw_p18 : lw_okq (⟨"TwoSurveys", "numberOfWhole", "(LTwoSurveys$Towns;I)I"⟩, 10) := ⟨⟨by decide +kernel, by decide +kernel⟩, List.mem_of_getElem? (i := 19) (by decide +kernel), List.mem_of_getElem? (i := 740) (by decide +kernel), List.mem_of_getElem? (i := 741) (by decide +kernel)⟩
theorem lw_p19 : lw_okq (⟨"TwoSurveys$Matching", "isTurned", "(LTwoSurveys$Towns;III)Z"⟩, 7) := ⟨⟨by decide +kernel, by decide +kernel⟩, List.mem_of_getElem? (i := 138) (by decide +kernel), List.mem_of_getElem? (i := 754) (by decide +kernel), List.mem_of_getElem? (i := 755) (by decide +kernel)⟩
theorem lw_p20 : lw_okq (⟨"TwoSurveys", "expressedStreets", "(LTwoSurveys$Towns;)I"⟩, 10) := ⟨⟨by decide +kernel, by decide +kernel⟩, List.mem_of_getElem? (i := 19) (by decide +kernel), List.mem_of_getElem? (i := 767) (by decide +kernel), List.mem_of_getElem? (i := 768) (by decide +kernel)⟩
theorem lw_p21 : lw_okq (⟨"TwoSurveys", "hasThing", "(I)Z"⟩, 10) := ⟨⟨by decide +kernel, by decide +kernel⟩, List.mem_of_getElem? (i := 19) (by decide +kernel), List.mem_of_getElem? (i := 780) (by decide +kernel), List.mem_of_getElem? (i := 781) (by decide +kernel)⟩
theorem lw_p22 : lw_okq (⟨"TwoSurveysModel", "meets", "(IIII)V"⟩, 29) := ⟨⟨by decide +kernel, by decide +kernel⟩, List.mem_of_getElem? (i := 826) (by decide +kernel), List.mem_of_getElem? (i := 832) (by decide +kernel), List.mem_of_getElem? (i := 833) (by decide +kernel)⟩
theorem lw_p23 : lw_okq (⟨"TwoSurveysModel", "joins", "(IIII)V"⟩, 29) := ⟨⟨by decide +kernel, by decide +kernel⟩, List.mem_of_getElem? (i := 826) (by decide +kernel), List.mem_of_getElem? (i := 836) (by decide +kernel), List.mem_of_getElem? (i := 837) (by decide +kernel)⟩
theorem lw_p24 : lw_okq (⟨"TwoSurveysModel", "empties", "()V"⟩, 29) := ⟨⟨by decide +kernel, by decide +kernel⟩, List.mem_of_getElem? (i := 826) (by decide +kernel), List.mem_of_getElem? (i := 840) (by decide +kernel), List.mem_of_getElem? (i := 841) (by decide +kernel)⟩
theorem lw_p25 : lw_okq (⟨"TwoSurveysModel", "isMeeting", "(II)Z"⟩, 29) := ⟨⟨by decide +kernel, by decide +kernel⟩, List.mem_of_getElem? (i := 826) (by decide +kernel), List.mem_of_getElem? (i := 936) (by decide +kernel), List.mem_of_getElem? (i := 937) (by decide +kernel)⟩
theorem lw_p26 : lw_okq (⟨"TwoSurveysModel", "nearOf", "(I)I"⟩, 29) := ⟨⟨by decide +kernel, by decide +kernel⟩, List.mem_of_getElem? (i := 826) (by decide +kernel), List.mem_of_getElem? (i := 946) (by decide +kernel), List.mem_of_getElem? (i := 947) (by decide +kernel)⟩
theorem lw_p27 : lw_okq (⟨"TwoSurveysModel", "streetsAt", "(II)I"⟩, 29) := ⟨⟨by decide +kernel, by decide +kernel⟩, List.mem_of_getElem? (i := 826) (by decide +kernel), List.mem_of_getElem? (i := 950) (by decide +kernel), List.mem_of_getElem? (i := 951) (by decide +kernel)⟩
theorem lw_p28 : lw_okq (⟨"TwoSurveysModel", "isStreet", "(II)Z"⟩, 29) := ⟨⟨by decide +kernel, by decide +kernel⟩, List.mem_of_getElem? (i := 826) (by decide +kernel), List.mem_of_getElem? (i := 958) (by decide +kernel), List.mem_of_getElem? (i := 959) (by decide +kernel)⟩
theorem lw_p29 : lw_okq (⟨"TwoSurveysModel", "notes", "()V"⟩, 29) := ⟨⟨by decide +kernel, by decide +kernel⟩, List.mem_of_getElem? (i := 826) (by decide +kernel), List.mem_of_getElem? (i := 966) (by decide +kernel), List.mem_of_getElem? (i := 967) (by decide +kernel)⟩
theorem lw_p30 : lw_okq (⟨"TwoSurveysModel", "lays", "([II)V"⟩, 29) := ⟨⟨by decide +kernel, by decide +kernel⟩, List.mem_of_getElem? (i := 826) (by decide +kernel), List.mem_of_getElem? (i := 970) (by decide +kernel), List.mem_of_getElem? (i := 971) (by decide +kernel)⟩
theorem lw_p31 : lw_okq (⟨"TwoSurveysModel", "becomes", "([III)I"⟩, 29) := ⟨⟨by decide +kernel, by decide +kernel⟩, List.mem_of_getElem? (i := 826) (by decide +kernel), List.mem_of_getElem? (i := 978) (by decide +kernel), List.mem_of_getElem? (i := 979) (by decide +kernel)⟩
def lw_privs_2 : List (MethodName × Nat) := [(⟨"TwoSurveys$Transfer", "blend", "(LTwoSurveys$Towns;LTwoSurveys$Matching;I)V"⟩, 6), (⟨"TwoSurveys$Transfer", "follow", "(LTwoSurveys$Towns;LTwoSurveys$Matching;II)V"⟩, 6), (⟨"TwoSurveys", "numberOfWhole", "(LTwoSurveys$Towns;I)I"⟩, 10), (⟨"TwoSurveys$Matching", "isTurned", "(LTwoSurveys$Towns;III)Z"⟩, 7), (⟨"TwoSurveys", "expressedStreets", "(LTwoSurveys$Towns;)I"⟩, 10), (⟨"TwoSurveys", "hasThing", "(I)Z"⟩, 10), (⟨"TwoSurveysModel", "meets", "(IIII)V"⟩, 29), (⟨"TwoSurveysModel", "joins", "(IIII)V"⟩, 29), (⟨"TwoSurveysModel", "empties", "()V"⟩, 29), (⟨"TwoSurveysModel", "isMeeting", "(II)Z"⟩, 29), (⟨"TwoSurveysModel", "nearOf", "(I)I"⟩, 29), (⟨"TwoSurveysModel", "streetsAt", "(II)I"⟩, 29), (⟨"TwoSurveysModel", "isStreet", "(II)Z"⟩, 29), (⟨"TwoSurveysModel", "notes", "()V"⟩, 29), (⟨"TwoSurveysModel", "lays", "([II)V"⟩, 29), (⟨"TwoSurveysModel", "becomes", "([III)I"⟩, 29)]
theorem lw_r2 : ∀ q ∈ lw_privs_2, lw_okq q := List.forall_mem_cons.mpr ⟨lw_p16, List.forall_mem_cons.mpr ⟨lw_p17, List.forall_mem_cons.mpr ⟨lw_p18, List.forall_mem_cons.mpr ⟨lw_p19, List.forall_mem_cons.mpr ⟨lw_p20, List.forall_mem_cons.mpr ⟨lw_p21, List.forall_mem_cons.mpr ⟨lw_p22, List.forall_mem_cons.mpr ⟨lw_p23, List.forall_mem_cons.mpr ⟨lw_p24, List.forall_mem_cons.mpr ⟨lw_p25, List.forall_mem_cons.mpr ⟨lw_p26, List.forall_mem_cons.mpr ⟨lw_p27, List.forall_mem_cons.mpr ⟨lw_p28, List.forall_mem_cons.mpr ⟨lw_p29, List.forall_mem_cons.mpr ⟨lw_p30, List.forall_mem_cons.mpr ⟨lw_p31, fun _ h => absurd h List.not_mem_nil⟩⟩⟩⟩⟩⟩⟩⟩⟩⟩⟩⟩⟩⟩⟩⟩
theorem lw_p32 : lw_okq (⟨"TwoSurveysModel", "between", "(III)I"⟩, 29) := ⟨⟨by decide +kernel, by decide +kernel⟩, List.mem_of_getElem? (i := 826) (by decide +kernel), List.mem_of_getElem? (i := 990) (by decide +kernel), List.mem_of_getElem? (i := 991) (by decide +kernel)⟩
theorem lw_p33 : lw_okq (⟨"TwoSurveysModel", "takes", "([II)V"⟩, 29) := ⟨⟨by decide +kernel, by decide +kernel⟩, List.mem_of_getElem? (i := 826) (by decide +kernel), List.mem_of_getElem? (i := 1006) (by decide +kernel), List.mem_of_getElem? (i := 1007) (by decide +kernel)⟩
theorem lw_p34 : lw_okq (⟨"TwoSurveysModel", "setBelief", "()V"⟩, 29) := ⟨⟨by decide +kernel, by decide +kernel⟩, List.mem_of_getElem? (i := 826) (by decide +kernel), List.mem_of_getElem? (i := 1022) (by decide +kernel), List.mem_of_getElem? (i := 1023) (by decide +kernel)⟩
theorem lw_p35 : lw_okq (⟨"TwoSurveysModel", "setFirst", "()V"⟩, 29) := ⟨⟨by decide +kernel, by decide +kernel⟩, List.mem_of_getElem? (i := 826) (by decide +kernel), List.mem_of_getElem? (i := 1026) (by decide +kernel), List.mem_of_getElem? (i := 1027) (by decide +kernel)⟩
theorem lw_p36 : lw_okq (⟨"TwoSurveysModel", "distance", "(II)I"⟩, 29) := ⟨⟨by decide +kernel, by decide +kernel⟩, List.mem_of_getElem? (i := 826) (by decide +kernel), List.mem_of_getElem? (i := 1030) (by decide +kernel), List.mem_of_getElem? (i := 1031) (by decide +kernel)⟩
theorem lw_p37 : lw_okq (⟨"TwoSurveysModel", "sumOf", "(III)I"⟩, 29) := ⟨⟨by decide +kernel, by decide +kernel⟩, List.mem_of_getElem? (i := 826) (by decide +kernel), List.mem_of_getElem? (i := 1037) (by decide +kernel), List.mem_of_getElem? (i := 1038) (by decide +kernel)⟩
theorem lw_p38 : lw_okq (⟨"TwoSurveysModel", "otherEnd", "(III)I"⟩, 29) := ⟨⟨by decide +kernel, by decide +kernel⟩, List.mem_of_getElem? (i := 826) (by decide +kernel), List.mem_of_getElem? (i := 1041) (by decide +kernel), List.mem_of_getElem? (i := 1042) (by decide +kernel)⟩
theorem lw_p39 : lw_okq (⟨"TwoSurveysModel", "believed", "(II)I"⟩, 29) := ⟨⟨by decide +kernel, by decide +kernel⟩, List.mem_of_getElem? (i := 826) (by decide +kernel), List.mem_of_getElem? (i := 1045) (by decide +kernel), List.mem_of_getElem? (i := 1046) (by decide +kernel)⟩
theorem lw_p40 : lw_okq (⟨"TwoSurveysModel", "setMatches", "()V"⟩, 29) := ⟨⟨by decide +kernel, by decide +kernel⟩, List.mem_of_getElem? (i := 826) (by decide +kernel), List.mem_of_getElem? (i := 1053) (by decide +kernel), List.mem_of_getElem? (i := 1054) (by decide +kernel)⟩
theorem lw_p41 : lw_okq (⟨"TwoSurveysModel", "matches", "([IZ)V"⟩, 29) := ⟨⟨by decide +kernel, by decide +kernel⟩, List.mem_of_getElem? (i := 826) (by decide +kernel), List.mem_of_getElem? (i := 1057) (by decide +kernel), List.mem_of_getElem? (i := 1058) (by decide +kernel)⟩
theorem lw_p42 : lw_okq (⟨"TwoSurveysModel", "setPath", "(I)V"⟩, 29) := ⟨⟨by decide +kernel, by decide +kernel⟩, List.mem_of_getElem? (i := 826) (by decide +kernel), List.mem_of_getElem? (i := 1065) (by decide +kernel), List.mem_of_getElem? (i := 1066) (by decide +kernel)⟩
theorem lw_p43 : lw_okq (⟨"TwoSurveysModel", "isWay", "(II)Z"⟩, 29) := ⟨⟨by decide +kernel, by decide +kernel⟩, List.mem_of_getElem? (i := 826) (by decide +kernel), List.mem_of_getElem? (i := 1069) (by decide +kernel), List.mem_of_getElem? (i := 1070) (by decide +kernel)⟩
theorem lw_p44 : lw_okq (⟨"TwoSurveysModel", "goes", "(IIIII)V"⟩, 29) := ⟨⟨by decide +kernel, by decide +kernel⟩, List.mem_of_getElem? (i := 826) (by decide +kernel), List.mem_of_getElem? (i := 1073) (by decide +kernel), List.mem_of_getElem? (i := 1074) (by decide +kernel)⟩
theorem lw_p45 : lw_okq (⟨"TwoSurveysModel", "nameBy", "()I"⟩, 29) := ⟨⟨by decide +kernel, by decide +kernel⟩, List.mem_of_getElem? (i := 826) (by decide +kernel), List.mem_of_getElem? (i := 1081) (by decide +kernel), List.mem_of_getElem? (i := 1082) (by decide +kernel)⟩
theorem lw_p46 : lw_okq (⟨"TwoSurveysModel", "setComes", "(IZ)V"⟩, 29) := ⟨⟨by decide +kernel, by decide +kernel⟩, List.mem_of_getElem? (i := 826) (by decide +kernel), List.mem_of_getElem? (i := 1089) (by decide +kernel), List.mem_of_getElem? (i := 1090) (by decide +kernel)⟩
theorem lw_p47 : lw_okq (⟨"TwoSurveysModel", "isMatched", "(I)Z"⟩, 29) := ⟨⟨by decide +kernel, by decide +kernel⟩, List.mem_of_getElem? (i := 826) (by decide +kernel), List.mem_of_getElem? (i := 1093) (by decide +kernel), List.mem_of_getElem? (i := 1094) (by decide +kernel)⟩
def lw_privs_3 : List (MethodName × Nat) := [(⟨"TwoSurveysModel", "between", "(III)I"⟩, 29), (⟨"TwoSurveysModel", "takes", "([II)V"⟩, 29), (⟨"TwoSurveysModel", "setBelief", "()V"⟩, 29), (⟨"TwoSurveysModel", "setFirst", "()V"⟩, 29), (⟨"TwoSurveysModel", "distance", "(II)I"⟩, 29), (⟨"TwoSurveysModel", "sumOf", "(III)I"⟩, 29), (⟨"TwoSurveysModel", "otherEnd", "(III)I"⟩, 29), (⟨"TwoSurveysModel", "believed", "(II)I"⟩, 29), (⟨"TwoSurveysModel", "setMatches", "()V"⟩, 29), (⟨"TwoSurveysModel", "matches", "([IZ)V"⟩, 29), (⟨"TwoSurveysModel", "setPath", "(I)V"⟩, 29), (⟨"TwoSurveysModel", "isWay", "(II)Z"⟩, 29), (⟨"TwoSurveysModel", "goes", "(IIIII)V"⟩, 29), (⟨"TwoSurveysModel", "nameBy", "()I"⟩, 29), (⟨"TwoSurveysModel", "setComes", "(IZ)V"⟩, 29), (⟨"TwoSurveysModel", "isMatched", "(I)Z"⟩, 29)]
theorem lw_r3 : ∀ q ∈ lw_privs_3, lw_okq q := List.forall_mem_cons.mpr ⟨lw_p32, List.forall_mem_cons.mpr ⟨lw_p33, List.forall_mem_cons.mpr ⟨lw_p34, List.forall_mem_cons.mpr ⟨lw_p35, List.forall_mem_cons.mpr ⟨lw_p36, List.forall_mem_cons.mpr ⟨lw_p37, List.forall_mem_cons.mpr ⟨lw_p38, List.forall_mem_cons.mpr ⟨lw_p39, List.forall_mem_cons.mpr ⟨lw_p40, List.forall_mem_cons.mpr ⟨lw_p41, List.forall_mem_cons.mpr ⟨lw_p42, List.forall_mem_cons.mpr ⟨lw_p43, List.forall_mem_cons.mpr ⟨lw_p44, List.forall_mem_cons.mpr ⟨lw_p45, List.forall_mem_cons.mpr ⟨lw_p46, List.forall_mem_cons.mpr ⟨lw_p47, fun _ h => absurd h List.not_mem_nil⟩⟩⟩⟩⟩⟩⟩⟩⟩⟩⟩⟩⟩⟩⟩⟩
theorem lw_p48 : lw_okq (⟨"TwoSurveysModel", "placeOf", "(IZ)I"⟩, 29) := ⟨⟨by decide +kernel, by decide +kernel⟩, List.mem_of_getElem? (i := 826) (by decide +kernel), List.mem_of_getElem? (i := 1097) (by decide +kernel), List.mem_of_getElem? (i := 1098) (by decide +kernel)⟩
theorem lw_p49 : lw_okq (⟨"TwoSurveysModel", "comesTo", "(II)V"⟩, 29) := ⟨⟨by decide +kernel, by decide +kernel⟩, List.mem_of_getElem? (i := 826) (by decide +kernel), List.mem_of_getElem? (i := 1101) (by decide +kernel), List.mem_of_getElem? (i := 1102) (by decide +kernel)⟩
theorem lw_p50 : lw_okq (⟨"TwoSurveysModel", "triangleOf", "(I)I"⟩, 29) := ⟨⟨by decide +kernel, by decide +kernel⟩, List.mem_of_getElem? (i := 826) (by decide +kernel), List.mem_of_getElem? (i := 1108) (by decide +kernel), List.mem_of_getElem? (i := 1109) (by decide +kernel)⟩
theorem lw_p51 : lw_okq (⟨"TwoSurveysModel", "area", "(III)I"⟩, 29) := ⟨⟨by decide +kernel, by decide +kernel⟩, List.mem_of_getElem? (i := 826) (by decide +kernel), List.mem_of_getElem? (i := 1113) (by decide +kernel), List.mem_of_getElem? (i := 1114) (by decide +kernel)⟩
theorem lw_p52 : lw_okq (⟨"TwoSurveysModel", "isWithin", "(IIII)Z"⟩, 29) := ⟨⟨by decide +kernel, by decide +kernel⟩, List.mem_of_getElem? (i := 826) (by decide +kernel), List.mem_of_getElem? (i := 1117) (by decide +kernel), List.mem_of_getElem? (i := 1118) (by decide +kernel)⟩
theorem lw_p53 : lw_okq (⟨"TwoSurveysModel", "nearest", "(I)I"⟩, 29) := ⟨⟨by decide +kernel, by decide +kernel⟩, List.mem_of_getElem? (i := 826) (by decide +kernel), List.mem_of_getElem? (i := 1121) (by decide +kernel), List.mem_of_getElem? (i := 1122) (by decide +kernel)⟩
theorem lw_p54 : lw_okq (⟨"TwoSurveysModel", "matchedMany", "()I"⟩, 29) := ⟨⟨by decide +kernel, by decide +kernel⟩, List.mem_of_getElem? (i := 826) (by decide +kernel), List.mem_of_getElem? (i := 1130) (by decide +kernel), List.mem_of_getElem? (i := 1131) (by decide +kernel)⟩
theorem lw_p55 : lw_okq (⟨"TwoSurveysModel", "turnedMany", "()I"⟩, 29) := ⟨⟨by decide +kernel, by decide +kernel⟩, List.mem_of_getElem? (i := 826) (by decide +kernel), List.mem_of_getElem? (i := 1134) (by decide +kernel), List.mem_of_getElem? (i := 1135) (by decide +kernel)⟩
theorem lw_p56 : lw_okq (⟨"TwoSurveysModel", "isAgreed", "()Z"⟩, 29) := ⟨⟨by decide +kernel, by decide +kernel⟩, List.mem_of_getElem? (i := 826) (by decide +kernel), List.mem_of_getElem? (i := 1138) (by decide +kernel), List.mem_of_getElem? (i := 1139) (by decide +kernel)⟩
theorem lw_p57 : lw_okq (⟨"TwoSurveysModel", "loneOf", "(I)I"⟩, 29) := ⟨⟨by decide +kernel, by decide +kernel⟩, List.mem_of_getElem? (i := 826) (by decide +kernel), List.mem_of_getElem? (i := 1142) (by decide +kernel), List.mem_of_getElem? (i := 1143) (by decide +kernel)⟩
theorem lw_p58 : lw_okq (⟨"TwoSurveysModel", "toldMany", "()I"⟩, 29) := ⟨⟨by decide +kernel, by decide +kernel⟩, List.mem_of_getElem? (i := 826) (by decide +kernel), List.mem_of_getElem? (i := 1146) (by decide +kernel), List.mem_of_getElem? (i := 1147) (by decide +kernel)⟩
theorem lw_p59 : lw_okq (⟨"TwoSurveysModel", "thingMany", "()I"⟩, 29) := ⟨⟨by decide +kernel, by decide +kernel⟩, List.mem_of_getElem? (i := 826) (by decide +kernel), List.mem_of_getElem? (i := 1169) (by decide +kernel), List.mem_of_getElem? (i := 1170) (by decide +kernel)⟩
theorem lw_p60 : lw_okq (⟨"TwoSurveysModel", "readsAll", "()I"⟩, 29) := ⟨⟨by decide +kernel, by decide +kernel⟩, List.mem_of_getElem? (i := 826) (by decide +kernel), List.mem_of_getElem? (i := 1185) (by decide +kernel), List.mem_of_getElem? (i := 1186) (by decide +kernel)⟩
theorem lw_p61 : lw_okq (⟨"TwoSurveysModel", "readsItem", "()Z"⟩, 29) := ⟨⟨by decide +kernel, by decide +kernel⟩, List.mem_of_getElem? (i := 826) (by decide +kernel), List.mem_of_getElem? (i := 1189) (by decide +kernel), List.mem_of_getElem? (i := 1190) (by decide +kernel)⟩
theorem lw_p62 : lw_okq (⟨"TwoSurveysModel", "here", "()I"⟩, 29) := ⟨⟨by decide +kernel, by decide +kernel⟩, List.mem_of_getElem? (i := 826) (by decide +kernel), List.mem_of_getElem? (i := 1193) (by decide +kernel), List.mem_of_getElem? (i := 1194) (by decide +kernel)⟩
theorem lw_p63 : lw_okq (⟨"TwoSurveysModel", "readsNear", "()Z"⟩, 29) := ⟨⟨by decide +kernel, by decide +kernel⟩, List.mem_of_getElem? (i := 826) (by decide +kernel), List.mem_of_getElem? (i := 1197) (by decide +kernel), List.mem_of_getElem? (i := 1198) (by decide +kernel)⟩
def lw_privs_4 : List (MethodName × Nat) := [(⟨"TwoSurveysModel", "placeOf", "(IZ)I"⟩, 29), (⟨"TwoSurveysModel", "comesTo", "(II)V"⟩, 29), (⟨"TwoSurveysModel", "triangleOf", "(I)I"⟩, 29), (⟨"TwoSurveysModel", "area", "(III)I"⟩, 29), (⟨"TwoSurveysModel", "isWithin", "(IIII)Z"⟩, 29), (⟨"TwoSurveysModel", "nearest", "(I)I"⟩, 29), (⟨"TwoSurveysModel", "matchedMany", "()I"⟩, 29), (⟨"TwoSurveysModel", "turnedMany", "()I"⟩, 29), (⟨"TwoSurveysModel", "isAgreed", "()Z"⟩, 29), (⟨"TwoSurveysModel", "loneOf", "(I)I"⟩, 29), (⟨"TwoSurveysModel", "toldMany", "()I"⟩, 29), (⟨"TwoSurveysModel", "thingMany", "()I"⟩, 29), (⟨"TwoSurveysModel", "readsAll", "()I"⟩, 29), (⟨"TwoSurveysModel", "readsItem", "()Z"⟩, 29), (⟨"TwoSurveysModel", "here", "()I"⟩, 29), (⟨"TwoSurveysModel", "readsNear", "()Z"⟩, 29)]
theorem lw_r4 : ∀ q ∈ lw_privs_4, lw_okq q := List.forall_mem_cons.mpr ⟨lw_p48, List.forall_mem_cons.mpr ⟨lw_p49, List.forall_mem_cons.mpr ⟨lw_p50, List.forall_mem_cons.mpr ⟨lw_p51, List.forall_mem_cons.mpr ⟨lw_p52, List.forall_mem_cons.mpr ⟨lw_p53, List.forall_mem_cons.mpr ⟨lw_p54, List.forall_mem_cons.mpr ⟨lw_p55, List.forall_mem_cons.mpr ⟨lw_p56, List.forall_mem_cons.mpr ⟨lw_p57, List.forall_mem_cons.mpr ⟨lw_p58, List.forall_mem_cons.mpr ⟨lw_p59, List.forall_mem_cons.mpr ⟨lw_p60, List.forall_mem_cons.mpr ⟨lw_p61, List.forall_mem_cons.mpr ⟨lw_p62, List.forall_mem_cons.mpr ⟨lw_p63, fun _ h => absurd h List.not_mem_nil⟩⟩⟩⟩⟩⟩⟩⟩⟩⟩⟩⟩⟩⟩⟩⟩
theorem lw_p64 : lw_okq (⟨"TwoSurveysModel", "number", "(III)Z"⟩, 29) := ⟨⟨by decide +kernel, by decide +kernel⟩, List.mem_of_getElem? (i := 826) (by decide +kernel), List.mem_of_getElem? (i := 1201) (by decide +kernel), List.mem_of_getElem? (i := 1202) (by decide +kernel)⟩
theorem lw_p65 : lw_okq (⟨"TwoSurveysModel", "isFigure", "()Z"⟩, 29) := ⟨⟨by decide +kernel, by decide +kernel⟩, List.mem_of_getElem? (i := 826) (by decide +kernel), List.mem_of_getElem? (i := 1205) (by decide +kernel), List.mem_of_getElem? (i := 1206) (by decide +kernel)⟩
theorem lw_p66 : lw_okq (⟨"TwoSurveysModel", "readsRounds", "()Z"⟩, 29) := ⟨⟨by decide +kernel, by decide +kernel⟩, List.mem_of_getElem? (i := 826) (by decide +kernel), List.mem_of_getElem? (i := 1209) (by decide +kernel), List.mem_of_getElem? (i := 1210) (by decide +kernel)⟩
theorem lw_p67 : lw_okq (⟨"TwoSurveysModel", "readsMeeting", "(I)Z"⟩, 29) := ⟨⟨by decide +kernel, by decide +kernel⟩, List.mem_of_getElem? (i := 826) (by decide +kernel), List.mem_of_getElem? (i := 1213) (by decide +kernel), List.mem_of_getElem? (i := 1214) (by decide +kernel)⟩
theorem lw_p68 : lw_okq (⟨"TwoSurveysModel", "readsStreet", "(I)Z"⟩, 29) := ⟨⟨by decide +kernel, by decide +kernel⟩, List.mem_of_getElem? (i := 826) (by decide +kernel), List.mem_of_getElem? (i := 1217) (by decide +kernel), List.mem_of_getElem? (i := 1218) (by decide +kernel)⟩
def lw_privs_5 : List (MethodName × Nat) := [(⟨"TwoSurveysModel", "number", "(III)Z"⟩, 29), (⟨"TwoSurveysModel", "isFigure", "()Z"⟩, 29), (⟨"TwoSurveysModel", "readsRounds", "()Z"⟩, 29), (⟨"TwoSurveysModel", "readsMeeting", "(I)Z"⟩, 29), (⟨"TwoSurveysModel", "readsStreet", "(I)Z"⟩, 29)]
theorem lw_r5 : ∀ q ∈ lw_privs_5, lw_okq q := List.forall_mem_cons.mpr ⟨lw_p64, List.forall_mem_cons.mpr ⟨lw_p65, List.forall_mem_cons.mpr ⟨lw_p66, List.forall_mem_cons.mpr ⟨lw_p67, List.forall_mem_cons.mpr ⟨lw_p68, fun _ h => absurd h List.not_mem_nil⟩⟩⟩⟩⟩
def lw_privs : List (MethodName × Nat) := lw_privs_1 ++ (lw_privs_2 ++ (lw_privs_3 ++ (lw_privs_4 ++ (lw_privs_5))))
def lw_tbl : List Cond := k2_sels lw_privs ++ tables_1
theorem lw_privs_ok : ∀ q ∈ lw_privs, lw_okq q := by
  show ∀ q ∈ lw_privs_1 ++ (lw_privs_2 ++ (lw_privs_3 ++ (lw_privs_4 ++ (lw_privs_5)))), lw_okq q
  exact List.forall_mem_append.mpr ⟨lw_r1, List.forall_mem_append.mpr ⟨lw_r2, List.forall_mem_append.mpr ⟨lw_r3, List.forall_mem_append.mpr ⟨lw_r4, lw_r5⟩⟩⟩⟩
-- ===== end of PART A; then your names; then what follows =====
end
section
/-- an array over arrays: what the tables say of it -/
def va_AOA (ty : FieldType) (U : State) : Prop := (Cond.arrayOver (.array ty)).before #[] U = true
theorem va_AOA.of {ty : FieldType} {A : Array Value} {U : State} (h : (Cond.arrayOver (.array ty)).before A U = true) : va_AOA ty U := h
theorem va_AOA.use {ty : FieldType} {A : Array Value} {U : State} (h : va_AOA ty U) : (Cond.arrayOver (.array ty)).before A U = true := h
/-! ===== BEGIN words of one list among another's, by their places ===== -/
theorem goodIn_r {big : List Cond} (ws : List Cond) (ps : List Nat) (hp : ws = ps.filterMap (fun i => big[i]?)) (h : ws.all goodWord = true) : GoodIn big ws := by
  intro w hw
  have h1 := List.all_eq_true.mp h w hw
  rw [hp] at hw
  obtain ⟨i, -, hi⟩ := List.mem_filterMap.mp hw
  have hm : w ∈ big := by first | exact List.mem_of_getElem? hi | exact List.getElem?_mem hi
  exact ⟨hm, good_of_word h1⟩
theorem goodIn_app {big a b : List Cond} (ha : GoodIn big a) (hb : GoodIn big b) : GoodIn big (a ++ b) := fun w h => (List.mem_append.mp h).elim (ha w) (hb w)
theorem goodIn_ca {big a b : List Cond} {c : Cond} (ha : GoodIn big (c :: a)) (hb : GoodIn big b) : GoodIn big (c :: (a ++ b)) := fun w h => (List.mem_cons.mp h).elim (fun e => ha w (List.mem_cons.mpr (Or.inl e))) (fun h => (List.mem_append.mp h).elim (fun h => ha w (List.mem_cons.mpr (Or.inr h))) (hb w))
theorem goodIn_sub {big ws : List Cond} (hm : ∀ w ∈ ws, w ∈ big) (h : ws.all goodWord = true) : GoodIn big ws := fun w hw => ⟨hm w hw, good_of_word (List.all_eq_true.mp h w hw)⟩
/-! ===== END ===== -/

/-! ===== BEGIN new T[n][m]: the outer array a place, the inner ones among the pooled ===== -/
/-- f, but v at every address of l -/
def vr_up {α : Type} (f : Nat → α) (l : List Nat) (v : α) : Nat → α := fun a => if a ∈ l then v else f a
theorem vr_up_in {α : Type} {f : Nat → α} {l : List Nat} {v : α} {a : Nat} (h : a ∈ l) : vr_up f l v a = v := if_pos h
theorem vr_up_ne {α : Type} {f : Nat → α} {l : List Nat} {v : α} {a : Nat} (h : a ∉ l) : vr_up f l v a = f a := if_neg h
theorem vr_rows {L l : List Nat} {f : Nat → va_E} {e : va_E} (h : ∀ a, a ∈ l → a ∉ L) : va_pl L f ++ l.map (fun a => (a, e)) = va_pl (L ++ l) (vr_up f l e) := by
  unfold va_pl
  rw [List.map_append]
  congr 1
  · apply List.map_congr_left
    intro a ha
    rw [vr_up_ne (fun q => h a q ha)]
  · apply List.map_congr_left
    intro a ha
    rw [vr_up_in ha]
theorem vr_lay {X rows : va_W} {x : Nat × va_E} {pl : va_W} {D : va_G} {cl : List vw_C} {H : Heap} (hP : va_P D cl (((X ++ pl) ++ [x]) ++ rows) H) : va_P D cl ((X ++ [x]) ++ (pl ++ rows)) H := by
  rw [List.append_assoc (X ++ pl)] at hP
  have h := va_P.swap hP
  rw [← List.append_assoc X] at h
  have h2 := va_P.swap h
  rw [List.append_assoc (X ++ [x])] at h2
  exact h2
theorem vr_layD {X rows : va_W} {x : Nat × va_E} {pl : va_W} {A : Nat → Prop} (hD : va_D A (((X ++ pl) ++ [x]) ++ rows)) : va_D A ((X ++ [x]) ++ (pl ++ rows)) := by
  rw [List.append_assoc (X ++ pl)] at hD
  have h := va_D.swap hD
  rw [← List.append_assoc X] at h
  have h2 := va_D.swap h
  rw [List.append_assoc (X ++ [x])] at h2
  exact h2
theorem vr_outer (c : ClassId) (N h0 : Nat) : ∀ i : Nat, Jvm.Free.Multi.outerC c N h0 i = arrV c N (fun j => va_rf (if j < i then some (h0 + 1 + j) else none))
  | 0 => by
    show ({ cls := c, slots := Array.replicate N .null, vm := .none } : Cell) = _
    rw [arrV_new]
    refine congrArg (arrV c N) (funext fun j => ?_)
    simp [va_rf]
  | i + 1 => by
    show (Jvm.Free.Multi.outerC c N h0 i).setSlot i (.ref (h0 + 1 + i)) = _
    rw [vr_outer c N h0 i, arrV_store]
    refine congrArg (arrV c N) (funext fun j => ?_)
    by_cases e : j = i
    · subst e
      simp [updV, va_rf]
    · by_cases h : j < i
      · simp [updV, e, h, Nat.lt_succ_of_lt h]
      · simp [updV, e, h, show ¬ j < i + 1 by omega]
section VGM
variable {p : Program} {l : Launch} {e : Env} {R : Room} {s : State} {m : MethodId} {args : Array Value} {below : List Frame} {meth : Method} {c : Code} {H : Heap} {locs : List Loc} {cells slots : Nat} {Q : State → Prop}
variable {cc : ByteArray} {pc : Nat} {ls : Array Slot} {rest : List Value} {D : va_G} {cl : List vw_C} {A : Nat → Prop} {a : Nat} {tys : List (ClassId × FieldType)} {ws : va_W} {H0 : Heap}
theorem va_mna {X : va_W} {L : List Nat} {f : Nat → va_E} {cc : ByteArray} (hexec : p.tables.exec = Jvm.exec) (hb : c.code = cc) {own : String} {index : Nat} {ty : FieldType} {cy : ClassId} (hown : s.vm.findClass own = some m.cls) (hclink : (Cond.classLink own index ("[" ++ (FieldType.array ty).toString)).before args s = true) (hover : va_AOA ty s) (harr : (Cond.arrayClass ty).before args s = true) (hcy : s.vm.findClass (FieldType.array ty).toString = some cy)
    (hK : va_K D cl tys s) (hP : va_P D cl (X ++ va_pl L f) H) (hD : va_D A (X ++ va_pl L f)) (hS : va_S A H0 H locs) (hA : ∀ q, H0.size ≤ q → A q) {n k : Int32} {N' K' : Nat} {z : vp_A} (hn : ¬ n < 0) (hk : ¬ k < 0) (hN : n.toNatClampNeg = N') (hM : k.toNatClampNeg = K')
    (hb1 : N' * 4 ≤ 536870912) (hb2 : K' * componentBytes ty ≤ 536870912) (hb3 : K' ≤ 536870912) (hdf : fits ty (defaultValue ty) = true) (hdd : (defaultValue ty).isDefault = true) (hcells : cells + (1 + N') ≤ R.cells) (hslots : slots + (N' + N' * K') ≤ R.slots) (hz : ∀ c : ClassId, Jvm.Free.Multi.innerC c K' (defaultValue ty) = vp_cell c z) (hdg : decode cc pc = .ok (.multianewarray index 2, 4))
    (kk : ∀ (q : Nat) (r : Nat → Nat) (cA : ClassId) (H1 : Heap), (∀ i j : Nat, i < N' → j < N' → r i = r j → i = j) → (∀ i : Nat, i < N' → r i ∉ L) → va_K D cl (tys ++ [(cA, .array ty)]) s →
      va_P D cl ((X ++ [(q, .inl (cA, N', .inr (.inr (.inr (.inr (fun i => if i < N' then some (r i) else none))))))]) ++ va_pl (L ++ (List.range N').map r) (vr_up f ((List.range N').map r) (.inl (cy, z)))) H1 → va_D A ((X ++ [(q, .inl (cA, N', .inr (.inr (.inr (.inr (fun i => if i < N' then some (r i) else none))))))]) ++ va_pl (L ++ (List.range N').map r) (vr_up f ((List.range N').map r) (.inl (cy, z)))) → va_S A H0 H1 locs →
      W p l e R s m args below meth c H1 locs (cells + 1 + N') (slots + N' + N' * K') Q (F0 m (pc + 4) ls (.ref q :: rest))) : W p l e R s m args below meth c H locs cells slots Q (F0 m pc ls (.int k :: .int n :: rest)) := by
  subst hN
  subst hM
  intro T hT Xs
  obtain ⟨vm₁, cA, comp, -, fA, fC, hO, -, X', step⟩ := Xs.multianewarray2F hexec hown hclink (va_AOA.use hover) harr (g := F0 m pc ls (.int k :: .int n :: rest)) rfl (by rw [hb]; exact hdg) rfl hn hk hb1 hb2 hb3 hdf hdd hcells hslots
  have ec : some cy = some comp := hcy.symm.trans fC
  cases ec
  generalize hF : Jvm.Free.Multi.fill (T.setVm vm₁) cA cy n.toNatClampNeg k.toNatClampNeg (defaultValue ty) n.toNatClampNeg = F at X' step
  have hTh : (T.setVm vm₁).heap = H := hT
  obtain ⟨f1, f2, -, -⟩ := Jvm.Free.Multi.fill_facts (T.setVm vm₁) cA cy n.toNatClampNeg k.toNatClampNeg (defaultValue ty) n.toNatClampNeg
  rw [hF, hTh] at f1 f2
  have hold : ∀ x : Nat, x < H.size → F.heap[x]? = H[x]? := fun x hx => by
    have := Jvm.Free.Multi.fill_old (T.setVm vm₁) cA cy n.toNatClampNeg k.toNatClampNeg (defaultValue ty) (a := x) (by rw [hTh]; exact hx) n.toNatClampNeg
    rw [hF, hTh] at this
    exact this
  have hrow : ∀ j : Nat, j < n.toNatClampNeg → F.heap[H.size + 1 + j]? = some (vp_cell cy z) := fun j hj => by
    have := Jvm.Free.Multi.fill_inner (T.setVm vm₁) cA cy n.toNatClampNeg k.toNatClampNeg (defaultValue ty) n.toNatClampNeg j hj
    rw [hF, hTh, hz] at this
    exact this
  have hout : Jvm.Free.Multi.outerC cA n.toNatClampNeg H.size n.toNatClampNeg = vp_cell cA (n.toNatClampNeg, .inr (.inr (.inr (.inr (fun i => if i < n.toNatClampNeg then some (H.size + 1 + i) else none))))) := by
    rw [vp_cell_q]
    exact vr_outer cA n.toNatClampNeg H.size n.toNatClampNeg
  rw [hout] at f2
  have hlt : ∀ a, a ∈ L → a < H.size := fun a ha => by
    obtain ⟨k9, hk9⟩ := va_pl_get (X := X) (f := f) ha
    exact (hP k9 _ hk9).lt
  have hnl : ∀ i : Nat, i < n.toNatClampNeg → H.size + 1 + i ∉ L := fun i _ h => by
    have := hlt _ h
    omega
  have hnm : ∀ a, a ∈ (List.range n.toNatClampNeg).map (fun i => H.size + 1 + i) → a ∉ L := fun a ha h => by
    obtain ⟨i, -, rfl⟩ := List.mem_map.mp ha
    have := hlt _ h
    omega
  have hP0 : va_P D cl (X ++ va_pl L f) F.heap := hP.kept (fun k9 x hx => hold x.1 ((hP k9 x hx).lt))
  have hP1 : va_P D cl ((X ++ va_pl L f) ++ [(H.size, .inl (cA, n.toNatClampNeg, .inr (.inr (.inr (.inr (fun i => if i < n.toNatClampNeg then some (H.size + 1 + i) else none))))))]) F.heap := hP0.app (fun k9 x hx => by
    have h0 : k9 < 1 := (List.getElem?_eq_some_iff.mp hx).1
    rw [show k9 = 0 by omega] at hx
    cases hx
    exact f2)
  have hP2 : va_P D cl (((X ++ va_pl L f) ++ [(H.size, .inl (cA, n.toNatClampNeg, .inr (.inr (.inr (.inr (fun i => if i < n.toNatClampNeg then some (H.size + 1 + i) else none))))))]) ++ ((List.range n.toNatClampNeg).map (fun i => H.size + 1 + i)).map (fun a => (a, .inl (cy, z)))) F.heap := hP1.app (fun k9 x hx => by
    obtain ⟨a, ha, rfl⟩ := List.mem_map.mp (List.mem_of_getElem? hx)
    obtain ⟨i, hi, rfl⟩ := List.mem_map.mp ha
    exact hrow i (List.mem_range.mp hi))
  have hD2 : va_D A (((X ++ va_pl L f) ++ [(H.size, .inl (cA, n.toNatClampNeg, .inr (.inr (.inr (.inr (fun i => if i < n.toNatClampNeg then some (H.size + 1 + i) else none))))))]) ++ ((List.range n.toNatClampNeg).map (fun i => H.size + 1 + i)).map (fun a => (a, .inl (cy, z)))) := by
    have hD1 := hD.push (e := .inl (cA, n.toNatClampNeg, .inr (.inr (.inr (.inr (fun i => if i < n.toNatClampNeg then some (H.size + 1 + i) else none)))))) hP rfl (hA _ hS.1)
    generalize hW1 : (X ++ va_pl L f) ++ [(H.size, .inl (cA, n.toNatClampNeg, .inr (.inr (.inr (.inr (fun i => if i < n.toNatClampNeg then some (H.size + 1 + i) else none))))))] = W1 at hD1 hP1 ⊢
    have hle : ∀ (k9 : Nat) (x : Nat × va_E), W1[k9]? = some x → x.1 ≤ H.size := fun k9 x hx => by
      rw [← hW1] at hx
      by_cases hl : k9 < (X ++ va_pl L f).length
      · rw [List.getElem?_append_left hl] at hx
        exact Nat.le_of_lt ((hP k9 x hx).lt)
      · rw [List.getElem?_append_right (by omega)] at hx
        have h0 : k9 - (X ++ va_pl L f).length < 1 := (List.getElem?_eq_some_iff.mp hx).1
        rw [show k9 - (X ++ va_pl L f).length = 0 by omega] at hx
        cases hx
        exact Nat.le_refl _
    have hr : ∀ (k9 : Nat) (x : Nat × va_E), (((List.range n.toNatClampNeg).map (fun i => H.size + 1 + i)).map (fun a => ((a, .inl (cy, z)) : Nat × va_E)))[k9]? = some x → x.1 = H.size + 1 + k9 := fun k9 x hx => by
      rw [List.getElem?_map, List.getElem?_map] at hx
      by_cases h9 : k9 < n.toNatClampNeg
      · rw [List.getElem?_range h9] at hx
        cases hx
        rfl
      · have hn0 : (List.range n.toNatClampNeg)[k9]? = none := List.getElem?_eq_none (by rw [List.length_range]; omega)
        rw [hn0] at hx
        cases hx
    refine ⟨fun i j x y hi hj hxy => ?_, fun k9 x hx => ?_⟩
    · by_cases h1 : i < W1.length <;> by_cases h2 : j < W1.length
      · rw [List.getElem?_append_left h1] at hi
        rw [List.getElem?_append_left h2] at hj
        exact hD1.1 i j x y hi hj hxy
      · rw [List.getElem?_append_left h1] at hi
        rw [List.getElem?_append_right (by omega)] at hj
        have := hle _ _ hi
        have := hr _ _ hj
        omega
      · rw [List.getElem?_append_right (by omega)] at hi
        rw [List.getElem?_append_left h2] at hj
        have := hle _ _ hj
        have := hr _ _ hi
        omega
      · rw [List.getElem?_append_right (by omega)] at hi hj
        have := hr _ _ hi
        have := hr _ _ hj
        omega
    · by_cases h1 : k9 < W1.length
      · rw [List.getElem?_append_left h1] at hx
        exact hD1.2 k9 x hx
      · rw [List.getElem?_append_right (by omega)] at hx
        have := hr _ _ hx
        exact hA _ (by have := hS.1; omega)
  have hAr : ArrOfT s cA (.array ty) := fun N9 z9 => by
    obtain ⟨-, k9, hk9, cm9, hkk9⟩ := (hO 0 0 0).1
    exact ⟨(fun q hq => by cases hq), k9, hk9, cm9, hkk9⟩
  have hK2 : va_K D cl (tys ++ [(cA, .array ty)]) s := ⟨hK.1, fun k9 x hx => by
    by_cases hl : k9 < tys.length
    · rw [List.getElem?_append_left hl] at hx
      exact hK.2 k9 x hx
    · rw [List.getElem?_append_right (by omega)] at hx
      have h0 : k9 - tys.length < 1 := (List.getElem?_eq_some_iff.mp hx).1
      rw [show k9 - tys.length = 0 by omega] at hx
      cases hx
      exact ⟨hAr, fA⟩⟩
  obtain ⟨t, a1, b1⟩ := kk H.size (fun i => H.size + 1 + i) cA F.heap (fun i j _ _ h => by have h9 : H.size + 1 + i = H.size + 1 + j := h; omega) hnl hK2 (by rw [← vr_rows hnm]; exact vr_lay hP2) (by rw [← vr_rows hnm]; exact vr_layD hD2) ⟨by rw [f1]; have := hS.1; omega, fun x h1 h2 => (hold x (Nat.lt_of_lt_of_le h1 hS.1)).trans (hS.2.1 x h1 h2), hS.2.2⟩ F rfl X'
  refine ⟨t, step t ?_, b1⟩
  have e : T.heap.size = H.size := by rw [hT]
  rw [e]
  exact a1
end VGM
/-! ===== END ===== -/

/-! ===== BEGIN printed: names, fields, word lists, decode rows ===== -/
def RX0 : String := "TwoSurveys$Matching"
def TX0 : u_T := fun k => match k with
  | 0 => ("TwoSurveys$Matching", "beliefs", "[[I", true)
  | 1 => ("TwoSurveys$Matching", "before", "[[I", true)
  | 2 => ("TwoSurveys$Matching", "mates0", "[I", true)
  | 3 => ("TwoSurveys$Matching", "mates1", "[I", true)
  | 4 => ("TwoSurveys$Matching", "exchanged0", "[I", true)
  | 5 => ("TwoSurveys$Matching", "exchanged1", "[I", true)
  | _ => ("TwoSurveys$Matching", "pairs", "I", false)
def tyX0 : Nat → FieldType := fun k => match k with
  | 0 => .array (.array .int)
  | 1 => .array (.array .int)
  | 2 => .array .int
  | 3 => .array .int
  | 4 => .array .int
  | 5 => .array .int
  | _ => .int
abbrev wsX00 : List Cond := u_ws RX0 TX0 7
theorem nmX0 : ∀ a, a < 7 → ∀ b, b < 7 → a ≠ b → (TX0 a).2.1 ≠ (TX0 b).2.1 := by decide +kernel
theorem tyX0_ok : ∀ k, k < 7 → parseFieldDescriptor (TX0 k).2.2.1 = some (tyX0 k) := by decide +kernel
abbrev cX0_init : ByteArray := prog_2_method_1_code
def yX0_init : MethodName := ⟨RX0, "<init>", "()V"⟩
abbrev cX0_make : ByteArray := prog_2_method_2_code
def yX0_make : MethodName := ⟨RX0, "make", "(LTwoSurveys$Towns;)V"⟩
abbrev cX0_pairs : ByteArray := prog_2_method_3_code
def yX0_pairs : MethodName := ⟨RX0, "pairs", "()I"⟩
abbrev cX0_beliefIn : ByteArray := prog_2_method_4_code
def yX0_beliefIn : MethodName := ⟨RX0, "beliefIn", "(II)I"⟩
abbrev cX0_isPair : ByteArray := prog_2_method_5_code
def yX0_isPair : MethodName := ⟨RX0, "isPair", "(II)Z"⟩
abbrev cX0_mateOf : ByteArray := prog_2_method_6_code
def yX0_mateOf : MethodName := ⟨RX0, "mateOf", "(II)I"⟩
abbrev cX0_unmatched : ByteArray := prog_2_method_7_code
def yX0_unmatched : MethodName := ⟨RX0, "unmatched", "(LTwoSurveys$Towns;I)I"⟩
abbrev cX0_isSameExchanged : ByteArray := prog_2_method_8_code
def yX0_isSameExchanged : MethodName := ⟨RX0, "isSameExchanged", "()Z"⟩
abbrev cX0_turnedTriples : ByteArray := prog_2_method_9_code
def yX0_turnedTriples : MethodName := ⟨RX0, "turnedTriples", "(LTwoSurveys$Towns;)I"⟩
abbrev cX0_areMatched : ByteArray := prog_2_method_10_code
def yX0_areMatched : MethodName := ⟨RX0, "areMatched", "(III)Z"⟩
abbrev cX0_isTurned : ByteArray := prog_2_method_11_code
def yX0_isTurned : MethodName := ⟨RX0, "isTurned", "(LTwoSurveys$Towns;III)Z"⟩
abbrev cX0_areNumbers : ByteArray := prog_2_method_12_code
def yX0_areNumbers : MethodName := ⟨RX0, "areNumbers", "(II)Z"⟩
abbrev cX0_firstBelief : ByteArray := prog_2_method_13_code
def yX0_firstBelief : MethodName := ⟨RX0, "firstBelief", "(LTwoSurveys$Towns;II)I"⟩
abbrev cX0_improve : ByteArray := prog_2_method_14_code
def yX0_improve : MethodName := ⟨RX0, "improve", "(LTwoSurveys$Towns;)V"⟩
abbrev cX0_support : ByteArray := prog_2_method_15_code
def yX0_support : MethodName := ⟨RX0, "support", "(LTwoSurveys$Towns;III)I"⟩
abbrev cX0_beliefBefore : ByteArray := prog_2_method_16_code
def yX0_beliefBefore : MethodName := ⟨RX0, "beliefBefore", "(II)I"⟩
abbrev cX0_pairUp : ByteArray := prog_2_method_17_code
def yX0_pairUp : MethodName := ⟨RX0, "pairUp", "(I[I[I)I"⟩
abbrev cX0_pairUpOne : ByteArray := prog_2_method_18_code
def yX0_pairUpOne : MethodName := ⟨RX0, "pairUpOne", "(I[I[I)Z"⟩
def RX1 : String := "TwoSurveys$Pile"
def TX1 : u_T := fun k => match k with
  | 0 => ("TwoSurveys$Pile", "copies", "[LTwoSurveys$Towns;", true)
  | _ => ("TwoSurveys$Pile", "height", "I", false)
def tyX1 : Nat → FieldType := fun k => match k with
  | 0 => .array (.object "TwoSurveys$Towns")
  | _ => .int
abbrev wsX10 : List Cond := u_ws RX1 TX1 2
theorem nmX1 : ∀ a, a < 2 → ∀ b, b < 2 → a ≠ b → (TX1 a).2.1 ≠ (TX1 b).2.1 := by decide +kernel
theorem tyX1_ok : ∀ k, k < 2 → parseFieldDescriptor (TX1 k).2.2.1 = some (tyX1 k) := by decide +kernel
abbrev cX1_init : ByteArray := prog_3_method_1_code
def yX1_init : MethodName := ⟨RX1, "<init>", "(I)V"⟩
abbrev cX1_height : ByteArray := prog_3_method_2_code
def yX1_height : MethodName := ⟨RX1, "height", "()I"⟩
abbrev cX1_clear : ByteArray := prog_3_method_3_code
def yX1_clear : MethodName := ⟨RX1, "clear", "()V"⟩
abbrev cX1_push : ByteArray := prog_3_method_4_code
def yX1_push : MethodName := ⟨RX1, "push", "(LTwoSurveys$Towns;)V"⟩
abbrev cX1_pop : ByteArray := prog_3_method_5_code
def yX1_pop : MethodName := ⟨RX1, "pop", "(LTwoSurveys$Towns;)Z"⟩
abbrev cX1_dropOldest : ByteArray := prog_3_method_6_code
def yX1_dropOldest : MethodName := ⟨RX1, "dropOldest", "()V"⟩
def RX2 : String := "TwoSurveys$Reader"
def TX2 : u_T := fun k => match k with
  | 0 => ("TwoSurveys$Reader", "numbers", "[I", true)
  | _ => ("TwoSurveys$Reader", "next", "I", false)
def tyX2 : Nat → FieldType := fun k => match k with
  | 0 => .array .int
  | _ => .int
abbrev wsX20 : List Cond := u_ws RX2 TX2 2
theorem nmX2 : ∀ a, a < 2 → ∀ b, b < 2 → a ≠ b → (TX2 a).2.1 ≠ (TX2 b).2.1 := by decide +kernel
theorem tyX2_ok : ∀ k, k < 2 → parseFieldDescriptor (TX2 k).2.2.1 = some (tyX2 k) := by decide +kernel
abbrev cX2_init : ByteArray := prog_4_method_1_code
def yX2_init : MethodName := ⟨RX2, "<init>", "()V"⟩
abbrev cX2_read : ByteArray := prog_4_method_2_code
def yX2_read : MethodName := ⟨RX2, "read", "(LTwoSurveys$Text;LTwoSurveys$Towns;)I"⟩
abbrev cX2_readItem : ByteArray := prog_4_method_3_code
def yX2_readItem : MethodName := ⟨RX2, "readItem", "(LTwoSurveys$Text;LTwoSurveys$Towns;)Z"⟩
abbrev cX2_numbersOf : ByteArray := prog_4_method_4_code
def yX2_numbersOf : MethodName := ⟨RX2, "numbersOf", "(I)I"⟩
abbrev cX2_readNumber : ByteArray := prog_4_method_5_code
def yX2_readNumber : MethodName := ⟨RX2, "readNumber", "(LTwoSurveys$Text;)I"⟩
abbrev cX2_take : ByteArray := prog_4_method_6_code
def yX2_take : MethodName := ⟨RX2, "take", "(ILTwoSurveys$Towns;)Z"⟩
def RX3 : String := "TwoSurveys$Shelves"
def TX3 : u_T := fun k => match k with
  | _ => ("TwoSurveys$Shelves", "things", "[I", true)
def tyX3 : Nat → FieldType := fun k => match k with
  | _ => .array .int
abbrev wsX30 : List Cond := u_ws RX3 TX3 1
theorem nmX3 : ∀ a, a < 1 → ∀ b, b < 1 → a ≠ b → (TX3 a).2.1 ≠ (TX3 b).2.1 := by decide +kernel
theorem tyX3_ok : ∀ k, k < 1 → parseFieldDescriptor (TX3 k).2.2.1 = some (tyX3 k) := by decide +kernel
abbrev cX3_init : ByteArray := prog_5_method_1_code
def yX3_init : MethodName := ⟨RX3, "<init>", "()V"⟩
abbrev cX3_clear : ByteArray := prog_5_method_2_code
def yX3_clear : MethodName := ⟨RX3, "clear", "()V"⟩
abbrev cX3_hasPlace : ByteArray := prog_5_method_3_code
def yX3_hasPlace : MethodName := ⟨RX3, "hasPlace", "(II)Z"⟩
abbrev cX3_takes : ByteArray := prog_5_method_4_code
def yX3_takes : MethodName := ⟨RX3, "takes", "(II)Z"⟩
abbrev cX3_put : ByteArray := prog_5_method_5_code
def yX3_put : MethodName := ⟨RX3, "put", "(III)V"⟩
abbrev cX3_thingAt : ByteArray := prog_5_method_6_code
def yX3_thingAt : MethodName := ⟨RX3, "thingAt", "(II)I"⟩
abbrev cX3_things : ByteArray := prog_5_method_7_code
def yX3_things : MethodName := ⟨RX3, "things", "()I"⟩
def RX4 : String := "TwoSurveys$Survey"
def TX4 : u_T := fun k => match k with
  | 0 => ("TwoSurveys$Survey", "kinds", "[I", true)
  | 1 => ("TwoSurveys$Survey", "xs", "[I", true)
  | 2 => ("TwoSurveys$Survey", "ys", "[I", true)
  | 3 => ("TwoSurveys$Survey", "starts", "[I", true)
  | 4 => ("TwoSurveys$Survey", "ends", "[I", true)
  | 5 => ("TwoSurveys$Survey", "names", "[I", true)
  | 6 => ("TwoSurveys$Survey", "meetings", "I", false)
  | _ => ("TwoSurveys$Survey", "streets", "I", false)
def tyX4 : Nat → FieldType := fun k => match k with
  | 0 => .array .int
  | 1 => .array .int
  | 2 => .array .int
  | 3 => .array .int
  | 4 => .array .int
  | 5 => .array .int
  | 6 => .int
  | _ => .int
abbrev wsX40 : List Cond := u_ws RX4 TX4 8
theorem nmX4 : ∀ a, a < 8 → ∀ b, b < 8 → a ≠ b → (TX4 a).2.1 ≠ (TX4 b).2.1 := by decide +kernel
theorem tyX4_ok : ∀ k, k < 8 → parseFieldDescriptor (TX4 k).2.2.1 = some (tyX4 k) := by decide +kernel
abbrev cX4_init : ByteArray := prog_6_method_1_code
def yX4_init : MethodName := ⟨RX4, "<init>", "()V"⟩
abbrev cX4_clear : ByteArray := prog_6_method_2_code
def yX4_clear : MethodName := ⟨RX4, "clear", "()V"⟩
abbrev cX4_copy : ByteArray := prog_6_method_3_code
def yX4_copy : MethodName := ⟨RX4, "copy", "(LTwoSurveys$Survey;)V"⟩
abbrev cX4_meetings : ByteArray := prog_6_method_4_code
def yX4_meetings : MethodName := ⟨RX4, "meetings", "()I"⟩
abbrev cX4_streets : ByteArray := prog_6_method_5_code
def yX4_streets : MethodName := ⟨RX4, "streets", "()I"⟩
abbrev cX4_hasMeeting : ByteArray := prog_6_method_6_code
def yX4_hasMeeting : MethodName := ⟨RX4, "hasMeeting", "(I)Z"⟩
abbrev cX4_hasStreet : ByteArray := prog_6_method_7_code
def yX4_hasStreet : MethodName := ⟨RX4, "hasStreet", "(I)Z"⟩
abbrev cX4_kindOf : ByteArray := prog_6_method_8_code
def yX4_kindOf : MethodName := ⟨RX4, "kindOf", "(I)I"⟩
abbrev cX4_xOf : ByteArray := prog_6_method_9_code
def yX4_xOf : MethodName := ⟨RX4, "xOf", "(I)I"⟩
abbrev cX4_yOf : ByteArray := prog_6_method_10_code
def yX4_yOf : MethodName := ⟨RX4, "yOf", "(I)I"⟩
abbrev cX4_startOf : ByteArray := prog_6_method_11_code
def yX4_startOf : MethodName := ⟨RX4, "startOf", "(I)I"⟩
abbrev cX4_endOf : ByteArray := prog_6_method_12_code
def yX4_endOf : MethodName := ⟨RX4, "endOf", "(I)I"⟩
abbrev cX4_nameOf : ByteArray := prog_6_method_13_code
def yX4_nameOf : MethodName := ⟨RX4, "nameOf", "(I)I"⟩
abbrev cX4_otherEnd : ByteArray := prog_6_method_14_code
def yX4_otherEnd : MethodName := ⟨RX4, "otherEnd", "(II)I"⟩
abbrev cX4_streetsAt : ByteArray := prog_6_method_15_code
def yX4_streetsAt : MethodName := ⟨RX4, "streetsAt", "(I)I"⟩
abbrev cX4_streetBetween : ByteArray := prog_6_method_16_code
def yX4_streetBetween : MethodName := ⟨RX4, "streetBetween", "(II)I"⟩
abbrev cX4_twiceArea : ByteArray := prog_6_method_17_code
def yX4_twiceArea : MethodName := ⟨RX4, "twiceArea", "(III)I"⟩
abbrev cX4_addMeeting : ByteArray := prog_6_method_18_code
def yX4_addMeeting : MethodName := ⟨RX4, "addMeeting", "(III)Z"⟩
abbrev cX4_addStreet : ByteArray := prog_6_method_19_code
def yX4_addStreet : MethodName := ⟨RX4, "addStreet", "(III)Z"⟩
abbrev cX4_dropStreet : ByteArray := prog_6_method_20_code
def yX4_dropStreet : MethodName := ⟨RX4, "dropStreet", "(I)V"⟩
abbrev cX4_put : ByteArray := prog_6_method_21_code
def yX4_put : MethodName := ⟨RX4, "put", "(III)V"⟩
abbrev cX4_setKind : ByteArray := prog_6_method_22_code
def yX4_setKind : MethodName := ⟨RX4, "setKind", "(II)V"⟩
abbrev cX4_setName : ByteArray := prog_6_method_23_code
def yX4_setName : MethodName := ⟨RX4, "setName", "(II)V"⟩
def RX5 : String := "TwoSurveys$Text"
def TX5 : u_T := fun k => match k with
  | 0 => ("TwoSurveys$Text", "letters", "[C", true)
  | _ => ("TwoSurveys$Text", "length", "I", false)
def tyX5 : Nat → FieldType := fun k => match k with
  | 0 => .array .char
  | _ => .int
abbrev wsX50 : List Cond := u_ws RX5 TX5 2
theorem nmX5 : ∀ a, a < 2 → ∀ b, b < 2 → a ≠ b → (TX5 a).2.1 ≠ (TX5 b).2.1 := by decide +kernel
theorem tyX5_ok : ∀ k, k < 2 → parseFieldDescriptor (TX5 k).2.2.1 = some (tyX5 k) := by decide +kernel
abbrev cX5_init : ByteArray := prog_7_method_1_code
def yX5_init : MethodName := ⟨RX5, "<init>", "()V"⟩
abbrev cX5_length : ByteArray := prog_7_method_2_code
def yX5_length : MethodName := ⟨RX5, "length", "()I"⟩
abbrev cX5_add : ByteArray := prog_7_method_3_code
def yX5_add : MethodName := ⟨RX5, "add", "(I)Z"⟩
abbrev cX5_clear : ByteArray := prog_7_method_4_code
def yX5_clear : MethodName := ⟨RX5, "clear", "()V"⟩
abbrev cX5_letterAt : ByteArray := prog_7_method_5_code
def yX5_letterAt : MethodName := ⟨RX5, "letterAt", "(I)I"⟩
def RX6 : String := "TwoSurveys$Towns"
def TX6 : u_T := fun k => match k with
  | 0 => ("TwoSurveys$Towns", "survey0", "LTwoSurveys$Survey;", true)
  | 1 => ("TwoSurveys$Towns", "survey1", "LTwoSurveys$Survey;", true)
  | 2 => ("TwoSurveys$Towns", "radius", "I", false)
  | _ => ("TwoSurveys$Towns", "rounds", "I", false)
def tyX6 : Nat → FieldType := fun k => match k with
  | 0 => .object "TwoSurveys$Survey"
  | 1 => .object "TwoSurveys$Survey"
  | 2 => .int
  | _ => .int
abbrev wsX60 : List Cond := u_ws RX6 TX6 4
theorem nmX6 : ∀ a, a < 4 → ∀ b, b < 4 → a ≠ b → (TX6 a).2.1 ≠ (TX6 b).2.1 := by decide +kernel
theorem tyX6_ok : ∀ k, k < 4 → parseFieldDescriptor (TX6 k).2.2.1 = some (tyX6 k) := by decide +kernel
abbrev cX6_init : ByteArray := prog_8_method_1_code
def yX6_init : MethodName := ⟨RX6, "<init>", "()V"⟩
abbrev cX6_clear : ByteArray := prog_8_method_2_code
def yX6_clear : MethodName := ⟨RX6, "clear", "()V"⟩
abbrev cX6_copy : ByteArray := prog_8_method_3_code
def yX6_copy : MethodName := ⟨RX6, "copy", "(LTwoSurveys$Towns;)V"⟩
abbrev cX6_surveyOf : ByteArray := prog_8_method_4_code
def yX6_surveyOf : MethodName := ⟨RX6, "surveyOf", "(I)LTwoSurveys$Survey;"⟩
abbrev cX6_radius : ByteArray := prog_8_method_5_code
def yX6_radius : MethodName := ⟨RX6, "radius", "()I"⟩
abbrev cX6_rounds : ByteArray := prog_8_method_6_code
def yX6_rounds : MethodName := ⟨RX6, "rounds", "()I"⟩
abbrev cX6_setRadius : ByteArray := prog_8_method_7_code
def yX6_setRadius : MethodName := ⟨RX6, "setRadius", "(I)Z"⟩
abbrev cX6_setRounds : ByteArray := prog_8_method_8_code
def yX6_setRounds : MethodName := ⟨RX6, "setRounds", "(I)Z"⟩
abbrev cX6_reachOf : ByteArray := prog_8_method_9_code
def yX6_reachOf : MethodName := ⟨RX6, "reachOf", "(II)I"⟩
abbrev cX6_squaredDistance : ByteArray := prog_8_method_10_code
def yX6_squaredDistance : MethodName := ⟨RX6, "squaredDistance", "(II)I"⟩
def RX7 : String := "TwoSurveys$Transfer"
def TX7 : u_T := fun k => match k with
  | 0 => ("TwoSurveys$Transfer", "topX", "I", false)
  | 1 => ("TwoSurveys$Transfer", "topY", "I", false)
  | 2 => ("TwoSurveys$Transfer", "bottom", "I", false)
  | 3 => ("TwoSurveys$Transfer", "cornerA", "I", false)
  | 4 => ("TwoSurveys$Transfer", "cornerB", "I", false)
  | _ => ("TwoSurveys$Transfer", "cornerC", "I", false)
def tyX7 : Nat → FieldType := fun k => match k with
  | 0 => .int
  | 1 => .int
  | 2 => .int
  | 3 => .int
  | 4 => .int
  | _ => .int
abbrev wsX70 : List Cond := u_ws RX7 TX7 6
theorem nmX7 : ∀ a, a < 6 → ∀ b, b < 6 → a ≠ b → (TX7 a).2.1 ≠ (TX7 b).2.1 := by decide +kernel
theorem tyX7_ok : ∀ k, k < 6 → parseFieldDescriptor (TX7 k).2.2.1 = some (tyX7 k) := by decide +kernel
abbrev cX7_init : ByteArray := prog_9_method_1_code
def yX7_init : MethodName := ⟨RX7, "<init>", "()V"⟩
abbrev cX7_topOfX : ByteArray := prog_9_method_2_code
def yX7_topOfX : MethodName := ⟨RX7, "topOfX", "()I"⟩
abbrev cX7_bottomOfX : ByteArray := prog_9_method_3_code
def yX7_bottomOfX : MethodName := ⟨RX7, "bottomOfX", "()I"⟩
abbrev cX7_topOfY : ByteArray := prog_9_method_4_code
def yX7_topOfY : MethodName := ⟨RX7, "topOfY", "()I"⟩
abbrev cX7_bottomOfY : ByteArray := prog_9_method_5_code
def yX7_bottomOfY : MethodName := ⟨RX7, "bottomOfY", "()I"⟩
abbrev cX7_find : ByteArray := prog_9_method_6_code
def yX7_find : MethodName := ⟨RX7, "find", "(LTwoSurveys$Towns;LTwoSurveys$Matching;I)V"⟩
abbrev cX7_set : ByteArray := prog_9_method_7_code
def yX7_set : MethodName := ⟨RX7, "set", "(III)V"⟩
abbrev cX7_findTriangle : ByteArray := prog_9_method_8_code
def yX7_findTriangle : MethodName := ⟨RX7, "findTriangle", "(LTwoSurveys$Survey;LTwoSurveys$Matching;I)Z"⟩
abbrev cX7_isInside : ByteArray := prog_9_method_9_code
def yX7_isInside : MethodName := ⟨RX7, "isInside", "(LTwoSurveys$Survey;IIII)Z"⟩
abbrev cX7_blend : ByteArray := prog_9_method_10_code
def yX7_blend : MethodName := ⟨RX7, "blend", "(LTwoSurveys$Towns;LTwoSurveys$Matching;I)V"⟩
abbrev cX7_nearest : ByteArray := prog_9_method_11_code
def yX7_nearest : MethodName := ⟨RX7, "nearest", "(LTwoSurveys$Survey;LTwoSurveys$Matching;I)I"⟩
abbrev cX7_follow : ByteArray := prog_9_method_12_code
def yX7_follow : MethodName := ⟨RX7, "follow", "(LTwoSurveys$Towns;LTwoSurveys$Matching;II)V"⟩
abbrev cX7_reduced : ByteArray := prog_9_method_13_code
def yX7_reduced : MethodName := ⟨RX7, "reduced", "(III)I"⟩
def RX8 : String := "TwoSurveys$Way"
def TX8 : u_T := fun k => match k with
  | 0 => ("TwoSurveys$Way", "stops", "[I", true)
  | _ => ("TwoSurveys$Way", "streets", "I", false)
def tyX8 : Nat → FieldType := fun k => match k with
  | 0 => .array .int
  | _ => .int
abbrev wsX80 : List Cond := u_ws RX8 TX8 2
theorem nmX8 : ∀ a, a < 2 → ∀ b, b < 2 → a ≠ b → (TX8 a).2.1 ≠ (TX8 b).2.1 := by decide +kernel
theorem tyX8_ok : ∀ k, k < 2 → parseFieldDescriptor (TX8 k).2.2.1 = some (tyX8 k) := by decide +kernel
abbrev cX8_init : ByteArray := prog_10_method_1_code
def yX8_init : MethodName := ⟨RX8, "<init>", "()V"⟩
abbrev cX8_isFound : ByteArray := prog_10_method_2_code
def yX8_isFound : MethodName := ⟨RX8, "isFound", "()Z"⟩
abbrev cX8_streets : ByteArray := prog_10_method_3_code
def yX8_streets : MethodName := ⟨RX8, "streets", "()I"⟩
abbrev cX8_stopAt : ByteArray := prog_10_method_4_code
def yX8_stopAt : MethodName := ⟨RX8, "stopAt", "(I)I"⟩
abbrev cX8_find : ByteArray := prog_10_method_5_code
def yX8_find : MethodName := ⟨RX8, "find", "(LTwoSurveys$Survey;II)V"⟩
abbrev cX8_commonName : ByteArray := prog_10_method_6_code
def yX8_commonName : MethodName := ⟨RX8, "commonName", "(LTwoSurveys$Survey;)I"⟩
abbrev cX8_findOne : ByteArray := prog_10_method_7_code
def yX8_findOne : MethodName := ⟨RX8, "findOne", "(LTwoSurveys$Survey;II)Z"⟩
abbrev cX8_findTwo : ByteArray := prog_10_method_8_code
def yX8_findTwo : MethodName := ⟨RX8, "findTwo", "(LTwoSurveys$Survey;II)Z"⟩
def RX9 : String := "TwoSurveys"
def TX9 : u_T := fun k => match k with
  | 0 => ("TwoSurveys", "text", "LTwoSurveys$Text;", true)
  | 1 => ("TwoSurveys", "reader", "LTwoSurveys$Reader;", true)
  | 2 => ("TwoSurveys", "now", "LTwoSurveys$Towns;", true)
  | 3 => ("TwoSurveys", "draft", "LTwoSurveys$Towns;", true)
  | 4 => ("TwoSurveys", "acts", "LTwoSurveys$Pile;", true)
  | 5 => ("TwoSurveys", "kept", "LTwoSurveys$Pile;", true)
  | 6 => ("TwoSurveys", "shelves", "LTwoSurveys$Shelves;", true)
  | 7 => ("TwoSurveys", "matching", "LTwoSurveys$Matching;", true)
  | 8 => ("TwoSurveys", "way", "LTwoSurveys$Way;", true)
  | _ => ("TwoSurveys", "transfer", "LTwoSurveys$Transfer;", true)
def tyX9 : Nat → FieldType := fun k => match k with
  | 0 => .object "TwoSurveys$Text"
  | 1 => .object "TwoSurveys$Reader"
  | 2 => .object "TwoSurveys$Towns"
  | 3 => .object "TwoSurveys$Towns"
  | 4 => .object "TwoSurveys$Pile"
  | 5 => .object "TwoSurveys$Pile"
  | 6 => .object "TwoSurveys$Shelves"
  | 7 => .object "TwoSurveys$Matching"
  | 8 => .object "TwoSurveys$Way"
  | _ => .object "TwoSurveys$Transfer"
abbrev wsX90 : List Cond := u_ws RX9 TX9 10
theorem nmX9 : ∀ a, a < 10 → ∀ b, b < 10 → a ≠ b → (TX9 a).2.1 ≠ (TX9 b).2.1 := by decide +kernel
theorem tyX9_ok : ∀ k, k < 10 → parseFieldDescriptor (TX9 k).2.2.1 = some (tyX9 k) := by decide +kernel
abbrev cX9_init : ByteArray := prog_1_method_1_code
def yX9_init : MethodName := ⟨RX9, "<init>", "()V"⟩
abbrev cX9_write : ByteArray := prog_1_method_2_code
def yX9_write : MethodName := ⟨RX9, "write", "(I)I"⟩
abbrev cX9_wipe : ByteArray := prog_1_method_3_code
def yX9_wipe : MethodName := ⟨RX9, "wipe", "()I"⟩
abbrev cX9_fault : ByteArray := prog_1_method_4_code
def yX9_fault : MethodName := ⟨RX9, "fault", "()I"⟩
abbrev cX9_lay : ByteArray := prog_1_method_5_code
def yX9_lay : MethodName := ⟨RX9, "lay", "()I"⟩
abbrev cX9_meeting : ByteArray := prog_1_method_6_code
def yX9_meeting : MethodName := ⟨RX9, "meeting", "(III)I"⟩
abbrev cX9_street : ByteArray := prog_1_method_7_code
def yX9_street : MethodName := ⟨RX9, "street", "(III)I"⟩
abbrev cX9_move : ByteArray := prog_1_method_8_code
def yX9_move : MethodName := ⟨RX9, "move", "(IIII)I"⟩
abbrev cX9_rename : ByteArray := prog_1_method_9_code
def yX9_rename : MethodName := ⟨RX9, "rename", "(III)I"⟩
abbrev cX9_name : ByteArray := prog_1_method_10_code
def yX9_name : MethodName := ⟨RX9, "name", "(III)I"⟩
abbrev cX9_join : ByteArray := prog_1_method_11_code
def yX9_join : MethodName := ⟨RX9, "join", "(IIII)I"⟩
abbrev cX9_cut : ByteArray := prog_1_method_12_code
def yX9_cut : MethodName := ⟨RX9, "cut", "(II)I"⟩
abbrev cX9_tune : ByteArray := prog_1_method_13_code
def yX9_tune : MethodName := ⟨RX9, "tune", "(II)I"⟩
abbrev cX9_undo : ByteArray := prog_1_method_14_code
def yX9_undo : MethodName := ⟨RX9, "undo", "()I"⟩
abbrev cX9_belief : ByteArray := prog_1_method_15_code
def yX9_belief : MethodName := ⟨RX9, "belief", "(II)I"⟩
abbrev cX9_match : ByteArray := prog_1_method_16_code
def yX9_match : MethodName := ⟨RX9, "match", "(II)I"⟩
abbrev cX9_told : ByteArray := prog_1_method_17_code
def yX9_told : MethodName := ⟨RX9, "told", "(II)I"⟩
abbrev cX9_named : ByteArray := prog_1_method_18_code
def yX9_named : MethodName := ⟨RX9, "named", "(I)I"⟩
abbrev cX9_comes : ByteArray := prog_1_method_19_code
def yX9_comes : MethodName := ⟨RX9, "comes", "(II)I"⟩
abbrev cX9_whole : ByteArray := prog_1_method_20_code
def yX9_whole : MethodName := ⟨RX9, "whole", "(I)I"⟩
abbrev cX9_shelve : ByteArray := prog_1_method_21_code
def yX9_shelve : MethodName := ⟨RX9, "shelve", "(III)I"⟩
abbrev cX9_shelf : ByteArray := prog_1_method_22_code
def yX9_shelf : MethodName := ⟨RX9, "shelf", "(II)I"⟩
abbrev cX9_day : ByteArray := prog_1_method_23_code
def yX9_day : MethodName := ⟨RX9, "day", "(III)I"⟩
abbrev cX9_keep : ByteArray := prog_1_method_24_code
def yX9_keep : MethodName := ⟨RX9, "keep", "()I"⟩
abbrev cX9_back : ByteArray := prog_1_method_25_code
def yX9_back : MethodName := ⟨RX9, "back", "()I"⟩
abbrev cX9_count : ByteArray := prog_1_method_26_code
def yX9_count : MethodName := ⟨RX9, "count", "(I)I"⟩
abbrev cX9_startTowns : ByteArray := prog_1_method_27_code
def yX9_startTowns : MethodName := ⟨RX9, "startTowns", "()LTwoSurveys$Towns;"⟩
abbrev cX9_isWithin : ByteArray := prog_1_method_28_code
def yX9_isWithin : MethodName := ⟨RX9, "isWithin", "(III)Z"⟩
abbrev cX9_isRadius : ByteArray := prog_1_method_29_code
def yX9_isRadius : MethodName := ⟨RX9, "isRadius", "(I)Z"⟩
abbrev cX9_isRounds : ByteArray := prog_1_method_30_code
def yX9_isRounds : MethodName := ⟨RX9, "isRounds", "(I)Z"⟩
abbrev cX9_hasMeeting : ByteArray := prog_1_method_31_code
def yX9_hasMeeting : MethodName := ⟨RX9, "hasMeeting", "(II)Z"⟩
abbrev cX9_hasStreet : ByteArray := prog_1_method_32_code
def yX9_hasStreet : MethodName := ⟨RX9, "hasStreet", "(II)Z"⟩
abbrev cX9_hasThing : ByteArray := prog_1_method_33_code
def yX9_hasThing : MethodName := ⟨RX9, "hasThing", "(I)Z"⟩
abbrev cX9_express : ByteArray := prog_1_method_34_code
def yX9_express : MethodName := ⟨RX9, "express", "(LTwoSurveys$Towns;I)V"⟩
abbrev cX9_numberOfWhole : ByteArray := prog_1_method_35_code
def yX9_numberOfWhole : MethodName := ⟨RX9, "numberOfWhole", "(LTwoSurveys$Towns;I)I"⟩
abbrev cX9_expressedStreets : ByteArray := prog_1_method_36_code
def yX9_expressedStreets : MethodName := ⟨RX9, "expressedStreets", "(LTwoSurveys$Towns;)I"⟩
abbrev cX9_moveAtRandom : ByteArray := prog_1_method_37_code
def yX9_moveAtRandom : MethodName := ⟨RX9, "moveAtRandom", "(LTwoSurveys$Towns;II)V"⟩
def RX10 : String := "TwoSurveysModel"
def TX10 : u_T := fun k => match k with
  | 0 => ("TwoSurveysModel", "near", "I", false)
  | 1 => ("TwoSurveysModel", "rounds", "I", false)
  | 2 => ("TwoSurveysModel", "meetings", "[I", true)
  | 3 => ("TwoSurveysModel", "streets", "[I", true)
  | 4 => ("TwoSurveysModel", "kindOf", "[I", true)
  | 5 => ("TwoSurveysModel", "xOf", "[I", true)
  | 6 => ("TwoSurveysModel", "yOf", "[I", true)
  | 7 => ("TwoSurveysModel", "fromOf", "[I", true)
  | 8 => ("TwoSurveysModel", "toOf", "[I", true)
  | 9 => ("TwoSurveysModel", "nameOf", "[I", true)
  | 10 => ("TwoSurveysModel", "ahead", "[I", true)
  | 11 => ("TwoSurveysModel", "undoMany", "I", false)
  | 12 => ("TwoSurveysModel", "saved", "[I", true)
  | 13 => ("TwoSurveysModel", "savedMany", "I", false)
  | 14 => ("TwoSurveysModel", "aside", "[I", true)
  | 15 => ("TwoSurveysModel", "belief", "[I", true)
  | 16 => ("TwoSurveysModel", "next", "[I", true)
  | 17 => ("TwoSurveysModel", "matchOf", "[I", true)
  | 18 => ("TwoSurveysModel", "otherMatch", "[I", true)
  | 19 => ("TwoSurveysModel", "pathMany", "I", false)
  | 20 => ("TwoSurveysModel", "path", "[I", true)
  | 21 => ("TwoSurveysModel", "upper", "I", false)
  | 22 => ("TwoSurveysModel", "lower", "I", false)
  | 23 => ("TwoSurveysModel", "shelves", "[I", true)
  | 24 => ("TwoSurveysModel", "text", "[I", true)
  | 25 => ("TwoSurveysModel", "size", "I", false)
  | 26 => ("TwoSurveysModel", "readAt", "I", false)
  | 27 => ("TwoSurveysModel", "readNumber", "I", false)
  | _ => ("TwoSurveysModel", "before", "[I", true)
def tyX10 : Nat → FieldType := fun k => match k with
  | 0 => .int
  | 1 => .int
  | 2 => .array .int
  | 3 => .array .int
  | 4 => .array .int
  | 5 => .array .int
  | 6 => .array .int
  | 7 => .array .int
  | 8 => .array .int
  | 9 => .array .int
  | 10 => .array .int
  | 11 => .int
  | 12 => .array .int
  | 13 => .int
  | 14 => .array .int
  | 15 => .array .int
  | 16 => .array .int
  | 17 => .array .int
  | 18 => .array .int
  | 19 => .int
  | 20 => .array .int
  | 21 => .int
  | 22 => .int
  | 23 => .array .int
  | 24 => .array .int
  | 25 => .int
  | 26 => .int
  | 27 => .int
  | _ => .array .int
abbrev wsX100 : List Cond := u_ws RX10 TX10 29
theorem nmX10 : ∀ a, a < 29 → ∀ b, b < 29 → a ≠ b → (TX10 a).2.1 ≠ (TX10 b).2.1 := by decide +kernel
theorem tyX10_ok : ∀ k, k < 29 → parseFieldDescriptor (TX10 k).2.2.1 = some (tyX10 k) := by decide +kernel
abbrev cX10_in : ByteArray := prog_12_method_1_code
def yX10_in : MethodName := ⟨RX10, "in", "(III)Z"⟩
abbrev cX10_init : ByteArray := prog_12_method_2_code
def yX10_init : MethodName := ⟨RX10, "<init>", "()V"⟩
abbrev cX10_meets : ByteArray := prog_12_method_3_code
def yX10_meets : MethodName := ⟨RX10, "meets", "(IIII)V"⟩
abbrev cX10_joins : ByteArray := prog_12_method_4_code
def yX10_joins : MethodName := ⟨RX10, "joins", "(IIII)V"⟩
abbrev cX10_isSurvey : ByteArray := prog_12_method_5_code
def yX10_isSurvey : MethodName := ⟨RX10, "isSurvey", "(I)Z"⟩
abbrev cX10_isMeeting : ByteArray := prog_12_method_6_code
def yX10_isMeeting : MethodName := ⟨RX10, "isMeeting", "(II)Z"⟩
abbrev cX10_isStreet : ByteArray := prog_12_method_7_code
def yX10_isStreet : MethodName := ⟨RX10, "isStreet", "(II)Z"⟩
abbrev cX10_between : ByteArray := prog_12_method_8_code
def yX10_between : MethodName := ⟨RX10, "between", "(III)I"⟩
abbrev cX10_streetsAt : ByteArray := prog_12_method_9_code
def yX10_streetsAt : MethodName := ⟨RX10, "streetsAt", "(II)I"⟩
abbrev cX10_nearOf : ByteArray := prog_12_method_10_code
def yX10_nearOf : MethodName := ⟨RX10, "nearOf", "(I)I"⟩
abbrev cX10_meeting : ByteArray := prog_12_method_11_code
def yX10_meeting : MethodName := ⟨RX10, "meeting", "(III)I"⟩
abbrev cX10_street : ByteArray := prog_12_method_12_code
def yX10_street : MethodName := ⟨RX10, "street", "(III)I"⟩
abbrev cX10_lays : ByteArray := prog_12_method_13_code
def yX10_lays : MethodName := ⟨RX10, "lays", "([II)V"⟩
abbrev cX10_takes : ByteArray := prog_12_method_14_code
def yX10_takes : MethodName := ⟨RX10, "takes", "([II)V"⟩
abbrev cX10_notes : ByteArray := prog_12_method_15_code
def yX10_notes : MethodName := ⟨RX10, "notes", "()V"⟩
abbrev cX10_move : ByteArray := prog_12_method_16_code
def yX10_move : MethodName := ⟨RX10, "move", "(IIII)I"⟩
abbrev cX10_becomes : ByteArray := prog_12_method_17_code
def yX10_becomes : MethodName := ⟨RX10, "becomes", "([III)I"⟩
abbrev cX10_rename : ByteArray := prog_12_method_18_code
def yX10_rename : MethodName := ⟨RX10, "rename", "(III)I"⟩
abbrev cX10_name : ByteArray := prog_12_method_19_code
def yX10_name : MethodName := ⟨RX10, "name", "(III)I"⟩
abbrev cX10_join : ByteArray := prog_12_method_20_code
def yX10_join : MethodName := ⟨RX10, "join", "(IIII)I"⟩
abbrev cX10_cut : ByteArray := prog_12_method_21_code
def yX10_cut : MethodName := ⟨RX10, "cut", "(II)I"⟩
abbrev cX10_tune : ByteArray := prog_12_method_22_code
def yX10_tune : MethodName := ⟨RX10, "tune", "(II)I"⟩
abbrev cX10_undo : ByteArray := prog_12_method_23_code
def yX10_undo : MethodName := ⟨RX10, "undo", "()I"⟩
abbrev cX10_keep : ByteArray := prog_12_method_24_code
def yX10_keep : MethodName := ⟨RX10, "keep", "()I"⟩
abbrev cX10_back : ByteArray := prog_12_method_25_code
def yX10_back : MethodName := ⟨RX10, "back", "()I"⟩
abbrev cX10_square : ByteArray := prog_12_method_26_code
def yX10_square : MethodName := ⟨RX10, "square", "(I)I"⟩
abbrev cX10_distance : ByteArray := prog_12_method_27_code
def yX10_distance : MethodName := ⟨RX10, "distance", "(II)I"⟩
abbrev cX10_setFirst : ByteArray := prog_12_method_28_code
def yX10_setFirst : MethodName := ⟨RX10, "setFirst", "()V"⟩
abbrev cX10_otherEnd : ByteArray := prog_12_method_29_code
def yX10_otherEnd : MethodName := ⟨RX10, "otherEnd", "(III)I"⟩
abbrev cX10_believed : ByteArray := prog_12_method_30_code
def yX10_believed : MethodName := ⟨RX10, "believed", "(II)I"⟩
abbrev cX10_sumOf : ByteArray := prog_12_method_31_code
def yX10_sumOf : MethodName := ⟨RX10, "sumOf", "(III)I"⟩
abbrev cX10_setBelief : ByteArray := prog_12_method_32_code
def yX10_setBelief : MethodName := ⟨RX10, "setBelief", "()V"⟩
abbrev cX10_belief : ByteArray := prog_12_method_33_code
def yX10_belief : MethodName := ⟨RX10, "belief", "(II)I"⟩
abbrev cX10_matches : ByteArray := prog_12_method_34_code
def yX10_matches : MethodName := ⟨RX10, "matches", "([IZ)V"⟩
abbrev cX10_setMatches : ByteArray := prog_12_method_35_code
def yX10_setMatches : MethodName := ⟨RX10, "setMatches", "()V"⟩
abbrev cX10_match : ByteArray := prog_12_method_36_code
def yX10_match : MethodName := ⟨RX10, "match", "(II)I"⟩
abbrev cX10_goes : ByteArray := prog_12_method_37_code
def yX10_goes : MethodName := ⟨RX10, "goes", "(IIIII)V"⟩
abbrev cX10_isWay : ByteArray := prog_12_method_38_code
def yX10_isWay : MethodName := ⟨RX10, "isWay", "(II)Z"⟩
abbrev cX10_setPath : ByteArray := prog_12_method_39_code
def yX10_setPath : MethodName := ⟨RX10, "setPath", "(I)V"⟩
abbrev cX10_told : ByteArray := prog_12_method_40_code
def yX10_told : MethodName := ⟨RX10, "told", "(II)I"⟩
abbrev cX10_nameBy : ByteArray := prog_12_method_41_code
def yX10_nameBy : MethodName := ⟨RX10, "nameBy", "()I"⟩
abbrev cX10_named : ByteArray := prog_12_method_42_code
def yX10_named : MethodName := ⟨RX10, "named", "(I)I"⟩
abbrev cX10_area : ByteArray := prog_12_method_43_code
def yX10_area : MethodName := ⟨RX10, "area", "(III)I"⟩
abbrev cX10_far : ByteArray := prog_12_method_44_code
def yX10_far : MethodName := ⟨RX10, "far", "(I)I"⟩
abbrev cX10_isWithin : ByteArray := prog_12_method_45_code
def yX10_isWithin : MethodName := ⟨RX10, "isWithin", "(IIII)Z"⟩
abbrev cX10_isMatched : ByteArray := prog_12_method_46_code
def yX10_isMatched : MethodName := ⟨RX10, "isMatched", "(I)Z"⟩
abbrev cX10_comesTo : ByteArray := prog_12_method_47_code
def yX10_comesTo : MethodName := ⟨RX10, "comesTo", "(II)V"⟩
abbrev cX10_triangleOf : ByteArray := prog_12_method_48_code
def yX10_triangleOf : MethodName := ⟨RX10, "triangleOf", "(I)I"⟩
abbrev cX10_nearest : ByteArray := prog_12_method_49_code
def yX10_nearest : MethodName := ⟨RX10, "nearest", "(I)I"⟩
abbrev cX10_placeOf : ByteArray := prog_12_method_50_code
def yX10_placeOf : MethodName := ⟨RX10, "placeOf", "(IZ)I"⟩
abbrev cX10_setComes : ByteArray := prog_12_method_51_code
def yX10_setComes : MethodName := ⟨RX10, "setComes", "(IZ)V"⟩
abbrev cX10_comes : ByteArray := prog_12_method_52_code
def yX10_comes : MethodName := ⟨RX10, "comes", "(II)I"⟩
abbrev cX10_matchedMany : ByteArray := prog_12_method_53_code
def yX10_matchedMany : MethodName := ⟨RX10, "matchedMany", "()I"⟩
abbrev cX10_turnedMany : ByteArray := prog_12_method_54_code
def yX10_turnedMany : MethodName := ⟨RX10, "turnedMany", "()I"⟩
abbrev cX10_isAgreed : ByteArray := prog_12_method_55_code
def yX10_isAgreed : MethodName := ⟨RX10, "isAgreed", "()Z"⟩
abbrev cX10_loneOf : ByteArray := prog_12_method_56_code
def yX10_loneOf : MethodName := ⟨RX10, "loneOf", "(I)I"⟩
abbrev cX10_toldMany : ByteArray := prog_12_method_57_code
def yX10_toldMany : MethodName := ⟨RX10, "toldMany", "()I"⟩
abbrev cX10_whole : ByteArray := prog_12_method_58_code
def yX10_whole : MethodName := ⟨RX10, "whole", "(I)I"⟩
abbrev cX10_empties : ByteArray := prog_12_method_59_code
def yX10_empties : MethodName := ⟨RX10, "empties", "()V"⟩
abbrev cX10_shelve : ByteArray := prog_12_method_60_code
def yX10_shelve : MethodName := ⟨RX10, "shelve", "(III)I"⟩
abbrev cX10_shelf : ByteArray := prog_12_method_61_code
def yX10_shelf : MethodName := ⟨RX10, "shelf", "(II)I"⟩
abbrev cX10_thingMany : ByteArray := prog_12_method_62_code
def yX10_thingMany : MethodName := ⟨RX10, "thingMany", "()I"⟩
abbrev cX10_day : ByteArray := prog_12_method_63_code
def yX10_day : MethodName := ⟨RX10, "day", "(III)I"⟩
abbrev cX10_count : ByteArray := prog_12_method_64_code
def yX10_count : MethodName := ⟨RX10, "count", "(I)I"⟩
abbrev cX10_write : ByteArray := prog_12_method_65_code
def yX10_write : MethodName := ⟨RX10, "write", "(I)I"⟩
abbrev cX10_wipe : ByteArray := prog_12_method_66_code
def yX10_wipe : MethodName := ⟨RX10, "wipe", "()I"⟩
abbrev cX10_here : ByteArray := prog_12_method_67_code
def yX10_here : MethodName := ⟨RX10, "here", "()I"⟩
abbrev cX10_isFigure : ByteArray := prog_12_method_68_code
def yX10_isFigure : MethodName := ⟨RX10, "isFigure", "()Z"⟩
abbrev cX10_number : ByteArray := prog_12_method_69_code
def yX10_number : MethodName := ⟨RX10, "number", "(III)Z"⟩
abbrev cX10_readsMeeting : ByteArray := prog_12_method_70_code
def yX10_readsMeeting : MethodName := ⟨RX10, "readsMeeting", "(I)Z"⟩
abbrev cX10_readsStreet : ByteArray := prog_12_method_71_code
def yX10_readsStreet : MethodName := ⟨RX10, "readsStreet", "(I)Z"⟩
abbrev cX10_readsNear : ByteArray := prog_12_method_72_code
def yX10_readsNear : MethodName := ⟨RX10, "readsNear", "()Z"⟩
abbrev cX10_readsRounds : ByteArray := prog_12_method_73_code
def yX10_readsRounds : MethodName := ⟨RX10, "readsRounds", "()Z"⟩
abbrev cX10_readsItem : ByteArray := prog_12_method_74_code
def yX10_readsItem : MethodName := ⟨RX10, "readsItem", "()Z"⟩
abbrev cX10_readsAll : ByteArray := prog_12_method_75_code
def yX10_readsAll : MethodName := ⟨RX10, "readsAll", "()I"⟩
abbrev cX10_fault : ByteArray := prog_12_method_76_code
def yX10_fault : MethodName := ⟨RX10, "fault", "()I"⟩
abbrev cX10_lay : ByteArray := prog_12_method_77_code
def yX10_lay : MethodName := ⟨RX10, "lay", "()I"⟩
def RJ9 : String := "java/lang/Math"
def TJ9 : u_T := fun k => match k with
  | _ => ("", "", "", false)
def tyJ9 : Nat → FieldType := fun k => match k with
  | _ => .int
abbrev wsJ90 : List Cond := u_ws RJ9 TJ9 0
theorem nmJ9 : ∀ a, a < 0 → ∀ b, b < 0 → a ≠ b → (TJ9 a).2.1 ≠ (TJ9 b).2.1 := by decide +kernel
theorem tyJ9_ok : ∀ k, k < 0 → parseFieldDescriptor (TJ9 k).2.2.1 = some (tyJ9 k) := by decide +kernel
abbrev cJ9_abs_0f7a4 : ByteArray := prog_13_method_59_code
def yJ9_abs_0f7a4 : MethodName := ⟨RJ9, "abs", "(I)I"⟩
abbrev cJ9_max_7cf53 : ByteArray := prog_13_method_65_code
def yJ9_max_7cf53 : MethodName := ⟨RJ9, "max", "(II)I"⟩
abbrev cJ9_min_7cf53 : ByteArray := prog_13_method_69_code
def yJ9_min_7cf53 : MethodName := ⟨RJ9, "min", "(II)I"⟩
def RJ0 : String := "java/lang/String"
def TJ0 : u_T := fun k => match k with
  | _ => ("", "", "", false)
def tyJ0 : Nat → FieldType := fun k => match k with
  | _ => .int
abbrev wsJ00 : List Cond := u_ws RJ0 TJ0 0
theorem nmJ0 : ∀ a, a < 0 → ∀ b, b < 0 → a ≠ b → (TJ0 a).2.1 ≠ (TJ0 b).2.1 := by decide +kernel
theorem tyJ0_ok : ∀ k, k < 0 → parseFieldDescriptor (TJ0 k).2.2.1 = some (tyJ0 k) := by decide +kernel
abbrev cJ0_length_8abf5 : ByteArray := prog_14_method_54_code
def yJ0_length_8abf5 : MethodName := ⟨RJ0, "length", "()I"⟩
abbrev cJ0_charAt_5068e : ByteArray := prog_14_method_56_code
def yJ0_charAt_5068e : MethodName := ⟨RJ0, "charAt", "(I)C"⟩
abbrev cJ0_coder_7d493 : ByteArray := prog_14_method_152_code
def yJ0_coder_7d493 : MethodName := ⟨RJ0, "coder", "()B"⟩
abbrev cJ0_isLatin1_aae02 : ByteArray := prog_14_method_154_code
def yJ0_isLatin1_aae02 : MethodName := ⟨RJ0, "isLatin1", "()Z"⟩
abbrev cJ0_checkIndex_df160 : ByteArray := prog_14_method_155_code
def yJ0_checkIndex_df160 : MethodName := ⟨RJ0, "checkIndex", "(II)V"⟩
def RJ1 : String := "java/lang/StringLatin1"
def TJ1 : u_T := fun k => match k with
  | _ => ("", "", "", false)
def tyJ1 : Nat → FieldType := fun k => match k with
  | _ => .int
abbrev wsJ10 : List Cond := u_ws RJ1 TJ1 0
theorem nmJ1 : ∀ a, a < 0 → ∀ b, b < 0 → a ≠ b → (TJ1 a).2.1 ≠ (TJ1 b).2.1 := by decide +kernel
theorem tyJ1_ok : ∀ k, k < 0 → parseFieldDescriptor (TJ1 k).2.2.1 = some (tyJ1 k) := by decide +kernel
abbrev cJ1_charAt_3b067 : ByteArray := prog_15_method_2_code
def yJ1_charAt_3b067 : MethodName := ⟨RJ1, "charAt", "([BI)C"⟩
def RJ2 : String := "java/lang/StringUTF16"
def TJ2 : u_T := fun k => match k with
  | _ => ("", "", "", false)
def tyJ2 : Nat → FieldType := fun k => match k with
  | _ => .int
abbrev wsJ20 : List Cond := u_ws RJ2 TJ2 0
theorem nmJ2 : ∀ a, a < 0 → ∀ b, b < 0 → a ≠ b → (TJ2 a).2.1 ≠ (TJ2 b).2.1 := by decide +kernel
theorem tyJ2_ok : ∀ k, k < 0 → parseFieldDescriptor (TJ2 k).2.2.1 = some (tyJ2 k) := by decide +kernel
abbrev cJ2_getChar_3b067 : ByteArray := prog_16_method_5_code
def yJ2_getChar_3b067 : MethodName := ⟨RJ2, "getChar", "([BI)C"⟩
abbrev cJ2_length_9d52b : ByteArray := prog_16_method_6_code
def yJ2_length_9d52b : MethodName := ⟨RJ2, "length", "([B)I"⟩
abbrev cJ2_charAt_3b067 : ByteArray := prog_16_method_83_code
def yJ2_charAt_3b067 : MethodName := ⟨RJ2, "charAt", "([BI)C"⟩
abbrev cJ2_checkIndex_2214a : ByteArray := prog_16_method_91_code
def yJ2_checkIndex_2214a : MethodName := ⟨RJ2, "checkIndex", "(I[B)V"⟩
def RJ10 : String := "java/lang/System"
def TJ10 : u_T := fun k => match k with
  | _ => ("", "", "", false)
def tyJ10 : Nat → FieldType := fun k => match k with
  | _ => .int
abbrev wsJ100 : List Cond := u_ws RJ10 TJ10 0
theorem nmJ10 : ∀ a, a < 0 → ∀ b, b < 0 → a ≠ b → (TJ10 a).2.1 ≠ (TJ10 b).2.1 := by decide +kernel
theorem tyJ10_ok : ∀ k, k < 0 → parseFieldDescriptor (TJ10 k).2.2.1 = some (tyJ10 k) := by decide +kernel
def RJ3 : String := "jdk/internal/util/Preconditions"
def TJ3 : u_T := fun k => match k with
  | _ => ("", "", "", false)
def tyJ3 : Nat → FieldType := fun k => match k with
  | _ => .int
abbrev wsJ30 : List Cond := u_ws RJ3 TJ3 0
theorem nmJ3 : ∀ a, a < 0 → ∀ b, b < 0 → a ≠ b → (TJ3 a).2.1 ≠ (TJ3 b).2.1 := by decide +kernel
theorem tyJ3_ok : ∀ k, k < 0 → parseFieldDescriptor (TJ3 k).2.2.1 = some (tyJ3 k) := by decide +kernel
abbrev cJ3_checkIndex_8e157 : ByteArray := prog_18_method_11_code
def yJ3_checkIndex_8e157 : MethodName := ⟨RJ3, "checkIndex", "(IILjava/util/function/BiFunction;)I"⟩
def RL : String := "TwoSurveysLaw"
abbrev cL_law : ByteArray := code
def yL_law : MethodName := ⟨RL, "law", "([I)Z"⟩
abbrev vwCl : List vw_C := [(RX0, TX0, 7), (RX1, TX1, 2), (RX2, TX2, 2), (RX3, TX3, 1), (RX4, TX4, 8), (RX5, TX5, 2), (RX6, TX6, 4), (RX7, TX7, 6), (RX8, TX8, 2), (RX9, TX9, 10), (RX10, TX10, 29)]
end
section
theorem dX0_init_0 : decode cX0_init 0 = .ok (.aload_n 0, 1) := by decide +kernel
theorem dX0_init_1 : decode cX0_init 1 = .ok (.invokespecial 3, 3) := by decide +kernel
theorem dX0_init_4 : decode cX0_init 4 = .ok (.aload_n 0, 1) := by decide +kernel
theorem dX0_init_5 : decode cX0_init 5 = .ok (.bipush 8, 2) := by decide +kernel
theorem dX0_init_7 : decode cX0_init 7 = .ok (.bipush 8, 2) := by decide +kernel
theorem dX0_init_9 : decode cX0_init 9 = .ok (.multianewarray 9 2, 4) := by decide +kernel
theorem dX0_init_13 : decode cX0_init 13 = .ok (.putfield 11, 3) := by decide +kernel
theorem dX0_init_16 : decode cX0_init 16 = .ok (.aload_n 0, 1) := by decide +kernel
theorem dX0_init_17 : decode cX0_init 17 = .ok (.bipush 8, 2) := by decide +kernel
theorem dX0_init_19 : decode cX0_init 19 = .ok (.bipush 8, 2) := by decide +kernel
theorem dX0_init_21 : decode cX0_init 21 = .ok (.multianewarray 9 2, 4) := by decide +kernel
theorem dX0_init_25 : decode cX0_init 25 = .ok (.putfield 16, 3) := by decide +kernel
theorem dX0_init_28 : decode cX0_init 28 = .ok (.aload_n 0, 1) := by decide +kernel
theorem dX0_init_29 : decode cX0_init 29 = .ok (.bipush 8, 2) := by decide +kernel
theorem dX0_init_31 : decode cX0_init 31 = .ok (.newarray .int, 2) := by decide +kernel
theorem dX0_init_33 : decode cX0_init 33 = .ok (.putfield 19, 3) := by decide +kernel
theorem dX0_init_36 : decode cX0_init 36 = .ok (.aload_n 0, 1) := by decide +kernel
theorem dX0_init_37 : decode cX0_init 37 = .ok (.bipush 8, 2) := by decide +kernel
theorem dX0_init_39 : decode cX0_init 39 = .ok (.newarray .int, 2) := by decide +kernel
theorem dX0_init_41 : decode cX0_init 41 = .ok (.putfield 23, 3) := by decide +kernel
theorem dX0_init_44 : decode cX0_init 44 = .ok (.aload_n 0, 1) := by decide +kernel
theorem dX0_init_45 : decode cX0_init 45 = .ok (.bipush 8, 2) := by decide +kernel
theorem dX0_init_47 : decode cX0_init 47 = .ok (.newarray .int, 2) := by decide +kernel
theorem dX0_init_49 : decode cX0_init 49 = .ok (.putfield 26, 3) := by decide +kernel
theorem dX0_init_52 : decode cX0_init 52 = .ok (.aload_n 0, 1) := by decide +kernel
theorem dX0_init_53 : decode cX0_init 53 = .ok (.bipush 8, 2) := by decide +kernel
theorem dX0_init_55 : decode cX0_init 55 = .ok (.newarray .int, 2) := by decide +kernel
theorem dX0_init_57 : decode cX0_init 57 = .ok (.putfield 29, 3) := by decide +kernel
theorem dX0_init_60 : decode cX0_init 60 = .ok (.return_, 1) := by decide +kernel
theorem dX0_make_0 : decode cX0_make 0 = .ok (.iconst 0, 1) := by decide +kernel
theorem dX0_make_1 : decode cX0_make 1 = .ok (.istore_n 2, 1) := by decide +kernel
theorem dX0_make_2 : decode cX0_make 2 = .ok (.iload_n 2, 1) := by decide +kernel
theorem dX0_make_3 : decode cX0_make 3 = .ok (.bipush 8, 2) := by decide +kernel
theorem dX0_make_5 : decode cX0_make 5 = .ok (.if_icmp .ge 41, 3) := by decide +kernel
theorem dX0_make_8 : decode cX0_make 8 = .ok (.iconst 0, 1) := by decide +kernel
theorem dX0_make_9 : decode cX0_make 9 = .ok (.istore_n 3, 1) := by decide +kernel
theorem dX0_make_10 : decode cX0_make 10 = .ok (.iload_n 3, 1) := by decide +kernel
theorem dX0_make_11 : decode cX0_make 11 = .ok (.bipush 8, 2) := by decide +kernel
theorem dX0_make_13 : decode cX0_make 13 = .ok (.if_icmp .ge 27, 3) := by decide +kernel
theorem dX0_make_16 : decode cX0_make 16 = .ok (.aload_n 0, 1) := by decide +kernel
theorem dX0_make_17 : decode cX0_make 17 = .ok (.getfield 11, 3) := by decide +kernel
theorem dX0_make_20 : decode cX0_make 20 = .ok (.iload_n 2, 1) := by decide +kernel
theorem dX0_make_21 : decode cX0_make 21 = .ok (.aaload, 1) := by decide +kernel
theorem dX0_make_22 : decode cX0_make 22 = .ok (.iload_n 3, 1) := by decide +kernel
theorem dX0_make_23 : decode cX0_make 23 = .ok (.sipush 512, 3) := by decide +kernel
theorem dX0_make_26 : decode cX0_make 26 = .ok (.aload_n 1, 1) := by decide +kernel
theorem dX0_make_27 : decode cX0_make 27 = .ok (.iload_n 2, 1) := by decide +kernel
theorem dX0_make_28 : decode cX0_make 28 = .ok (.iload_n 3, 1) := by decide +kernel
theorem dX0_make_29 : decode cX0_make 29 = .ok (.invokestatic 32, 3) := by decide +kernel
theorem dX0_make_32 : decode cX0_make 32 = .ok (.imul, 1) := by decide +kernel
theorem dX0_make_33 : decode cX0_make 33 = .ok (.iastore, 1) := by decide +kernel
theorem dX0_make_34 : decode cX0_make 34 = .ok (.iinc 3 1, 3) := by decide +kernel
theorem dX0_make_37 : decode cX0_make 37 = .ok (.goto (-27), 3) := by decide +kernel
theorem dX0_make_40 : decode cX0_make 40 = .ok (.iinc 2 1, 3) := by decide +kernel
theorem dX0_make_43 : decode cX0_make 43 = .ok (.goto (-41), 3) := by decide +kernel
theorem dX0_make_46 : decode cX0_make 46 = .ok (.iconst 0, 1) := by decide +kernel
theorem dX0_make_47 : decode cX0_make 47 = .ok (.istore_n 2, 1) := by decide +kernel
theorem dX0_make_48 : decode cX0_make 48 = .ok (.iload_n 2, 1) := by decide +kernel
theorem dX0_make_49 : decode cX0_make 49 = .ok (.aload_n 1, 1) := by decide +kernel
theorem dX0_make_50 : decode cX0_make 50 = .ok (.invokevirtual 36, 3) := by decide +kernel
theorem dX0_make_53 : decode cX0_make 53 = .ok (.if_icmp .ge 14, 3) := by decide +kernel
theorem dX0_make_56 : decode cX0_make 56 = .ok (.aload_n 0, 1) := by decide +kernel
theorem dX0_make_57 : decode cX0_make 57 = .ok (.aload_n 1, 1) := by decide +kernel
theorem dX0_make_58 : decode cX0_make 58 = .ok (.invokevirtual 42, 3) := by decide +kernel
theorem dX0_make_61 : decode cX0_make 61 = .ok (.iinc 2 1, 3) := by decide +kernel
theorem dX0_make_64 : decode cX0_make 64 = .ok (.goto (-16), 3) := by decide +kernel
theorem dX0_make_67 : decode cX0_make 67 = .ok (.aload_n 0, 1) := by decide +kernel
theorem dX0_make_68 : decode cX0_make 68 = .ok (.aload_n 0, 1) := by decide +kernel
theorem dX0_make_69 : decode cX0_make 69 = .ok (.iconst 0, 1) := by decide +kernel
theorem dX0_make_70 : decode cX0_make 70 = .ok (.aload_n 0, 1) := by decide +kernel
theorem dX0_make_71 : decode cX0_make 71 = .ok (.getfield 19, 3) := by decide +kernel
theorem dX0_make_74 : decode cX0_make 74 = .ok (.aload_n 0, 1) := by decide +kernel
theorem dX0_make_75 : decode cX0_make 75 = .ok (.getfield 23, 3) := by decide +kernel
theorem dX0_make_78 : decode cX0_make 78 = .ok (.invokevirtual 46, 3) := by decide +kernel
theorem dX0_make_81 : decode cX0_make 81 = .ok (.putfield 50, 3) := by decide +kernel
theorem dX0_make_84 : decode cX0_make 84 = .ok (.return_, 1) := by decide +kernel
theorem dX0_pairs_0 : decode cX0_pairs 0 = .ok (.aload_n 0, 1) := by decide +kernel
theorem dX0_pairs_1 : decode cX0_pairs 1 = .ok (.getfield 50, 3) := by decide +kernel
theorem dX0_pairs_4 : decode cX0_pairs 4 = .ok (.ireturn, 1) := by decide +kernel
theorem dX0_beliefIn_0 : decode cX0_beliefIn 0 = .ok (.iload_n 1, 1) := by decide +kernel
theorem dX0_beliefIn_1 : decode cX0_beliefIn 1 = .ok (.iload_n 2, 1) := by decide +kernel
theorem dX0_beliefIn_2 : decode cX0_beliefIn 2 = .ok (.invokestatic 54, 3) := by decide +kernel
theorem dX0_beliefIn_5 : decode cX0_beliefIn 5 = .ok (.ifCond .eq 14, 3) := by decide +kernel
theorem dX0_beliefIn_8 : decode cX0_beliefIn 8 = .ok (.aload_n 0, 1) := by decide +kernel
theorem dX0_beliefIn_9 : decode cX0_beliefIn 9 = .ok (.getfield 11, 3) := by decide +kernel
theorem dX0_beliefIn_12 : decode cX0_beliefIn 12 = .ok (.iload_n 1, 1) := by decide +kernel
theorem dX0_beliefIn_13 : decode cX0_beliefIn 13 = .ok (.aaload, 1) := by decide +kernel
theorem dX0_beliefIn_14 : decode cX0_beliefIn 14 = .ok (.iload_n 2, 1) := by decide +kernel
theorem dX0_beliefIn_15 : decode cX0_beliefIn 15 = .ok (.iaload, 1) := by decide +kernel
theorem dX0_beliefIn_16 : decode cX0_beliefIn 16 = .ok (.goto 4, 3) := by decide +kernel
theorem dX0_beliefIn_19 : decode cX0_beliefIn 19 = .ok (.iconst 0, 1) := by decide +kernel
theorem dX0_beliefIn_20 : decode cX0_beliefIn 20 = .ok (.ireturn, 1) := by decide +kernel
theorem dX0_isPair_0 : decode cX0_isPair 0 = .ok (.aload_n 0, 1) := by decide +kernel
theorem dX0_isPair_1 : decode cX0_isPair 1 = .ok (.iload_n 1, 1) := by decide +kernel
theorem dX0_isPair_2 : decode cX0_isPair 2 = .ok (.iload_n 2, 1) := by decide +kernel
theorem dX0_isPair_3 : decode cX0_isPair 3 = .ok (.invokevirtual 58, 3) := by decide +kernel
theorem dX0_isPair_6 : decode cX0_isPair 6 = .ok (.ifCond .le 7, 3) := by decide +kernel
theorem dX0_isPair_9 : decode cX0_isPair 9 = .ok (.iconst 1, 1) := by decide +kernel
theorem dX0_isPair_10 : decode cX0_isPair 10 = .ok (.goto 4, 3) := by decide +kernel
theorem dX0_isPair_13 : decode cX0_isPair 13 = .ok (.iconst 0, 1) := by decide +kernel
theorem dX0_isPair_14 : decode cX0_isPair 14 = .ok (.ireturn, 1) := by decide +kernel
theorem dX0_mateOf_0 : decode cX0_mateOf 0 = .ok (.iload_n 2, 1) := by decide +kernel
theorem dX0_mateOf_1 : decode cX0_mateOf 1 = .ok (.iconst 0, 1) := by decide +kernel
theorem dX0_mateOf_2 : decode cX0_mateOf 2 = .ok (.bipush 7, 2) := by decide +kernel
theorem dX0_mateOf_4 : decode cX0_mateOf 4 = .ok (.invokestatic 62, 3) := by decide +kernel
theorem dX0_mateOf_7 : decode cX0_mateOf 7 = .ok (.ifCond .ne 5, 3) := by decide +kernel
theorem dX0_mateOf_10 : decode cX0_mateOf 10 = .ok (.iconst (-1), 1) := by decide +kernel
theorem dX0_mateOf_11 : decode cX0_mateOf 11 = .ok (.ireturn, 1) := by decide +kernel
theorem dX0_mateOf_12 : decode cX0_mateOf 12 = .ok (.iload_n 1, 1) := by decide +kernel
theorem dX0_mateOf_13 : decode cX0_mateOf 13 = .ok (.ifCond .ne 12, 3) := by decide +kernel
theorem dX0_mateOf_16 : decode cX0_mateOf 16 = .ok (.aload_n 0, 1) := by decide +kernel
theorem dX0_mateOf_17 : decode cX0_mateOf 17 = .ok (.getfield 19, 3) := by decide +kernel
theorem dX0_mateOf_20 : decode cX0_mateOf 20 = .ok (.iload_n 2, 1) := by decide +kernel
theorem dX0_mateOf_21 : decode cX0_mateOf 21 = .ok (.iaload, 1) := by decide +kernel
theorem dX0_mateOf_22 : decode cX0_mateOf 22 = .ok (.goto 9, 3) := by decide +kernel
theorem dX0_mateOf_25 : decode cX0_mateOf 25 = .ok (.aload_n 0, 1) := by decide +kernel
theorem dX0_mateOf_26 : decode cX0_mateOf 26 = .ok (.getfield 23, 3) := by decide +kernel
theorem dX0_mateOf_29 : decode cX0_mateOf 29 = .ok (.iload_n 2, 1) := by decide +kernel
theorem dX0_mateOf_30 : decode cX0_mateOf 30 = .ok (.iaload, 1) := by decide +kernel
theorem dX0_mateOf_31 : decode cX0_mateOf 31 = .ok (.ireturn, 1) := by decide +kernel
theorem dX0_unmatched_0 : decode cX0_unmatched 0 = .ok (.iconst 0, 1) := by decide +kernel
theorem dX0_unmatched_1 : decode cX0_unmatched 1 = .ok (.istore_n 3, 1) := by decide +kernel
theorem dX0_unmatched_2 : decode cX0_unmatched 2 = .ok (.iconst 0, 1) := by decide +kernel
theorem dX0_unmatched_3 : decode cX0_unmatched 3 = .ok (.istore 4, 2) := by decide +kernel
theorem dX0_unmatched_5 : decode cX0_unmatched 5 = .ok (.iload 4, 2) := by decide +kernel
theorem dX0_unmatched_7 : decode cX0_unmatched 7 = .ok (.aload_n 1, 1) := by decide +kernel
theorem dX0_unmatched_8 : decode cX0_unmatched 8 = .ok (.iload_n 2, 1) := by decide +kernel
theorem dX0_unmatched_9 : decode cX0_unmatched 9 = .ok (.invokevirtual 66, 3) := by decide +kernel
theorem dX0_unmatched_12 : decode cX0_unmatched 12 = .ok (.invokevirtual 70, 3) := by decide +kernel
theorem dX0_unmatched_15 : decode cX0_unmatched 15 = .ok (.if_icmp .ge 27, 3) := by decide +kernel
theorem dX0_unmatched_18 : decode cX0_unmatched 18 = .ok (.aload_n 0, 1) := by decide +kernel
theorem dX0_unmatched_19 : decode cX0_unmatched 19 = .ok (.iload_n 2, 1) := by decide +kernel
theorem dX0_unmatched_20 : decode cX0_unmatched 20 = .ok (.iload 4, 2) := by decide +kernel
theorem dX0_unmatched_22 : decode cX0_unmatched 22 = .ok (.invokevirtual 75, 3) := by decide +kernel
theorem dX0_unmatched_25 : decode cX0_unmatched 25 = .ok (.iconst (-1), 1) := by decide +kernel
theorem dX0_unmatched_26 : decode cX0_unmatched 26 = .ok (.if_icmp .ne 10, 3) := by decide +kernel
theorem dX0_unmatched_29 : decode cX0_unmatched 29 = .ok (.iload_n 3, 1) := by decide +kernel
theorem dX0_unmatched_30 : decode cX0_unmatched 30 = .ok (.iconst 1, 1) := by decide +kernel
theorem dX0_unmatched_31 : decode cX0_unmatched 31 = .ok (.iload 4, 2) := by decide +kernel
theorem dX0_unmatched_33 : decode cX0_unmatched 33 = .ok (.ishl, 1) := by decide +kernel
theorem dX0_unmatched_34 : decode cX0_unmatched 34 = .ok (.ior, 1) := by decide +kernel
theorem dX0_unmatched_35 : decode cX0_unmatched 35 = .ok (.istore_n 3, 1) := by decide +kernel
theorem dX0_unmatched_36 : decode cX0_unmatched 36 = .ok (.iinc 4 1, 3) := by decide +kernel
theorem dX0_unmatched_39 : decode cX0_unmatched 39 = .ok (.goto (-34), 3) := by decide +kernel
theorem dX0_unmatched_42 : decode cX0_unmatched 42 = .ok (.iload_n 3, 1) := by decide +kernel
theorem dX0_unmatched_43 : decode cX0_unmatched 43 = .ok (.ireturn, 1) := by decide +kernel
theorem dX0_isSameExchanged_0 : decode cX0_isSameExchanged 0 = .ok (.aload_n 0, 1) := by decide +kernel
theorem dX0_isSameExchanged_1 : decode cX0_isSameExchanged 1 = .ok (.iconst 1, 1) := by decide +kernel
theorem dX0_isSameExchanged_2 : decode cX0_isSameExchanged 2 = .ok (.aload_n 0, 1) := by decide +kernel
theorem dX0_isSameExchanged_3 : decode cX0_isSameExchanged 3 = .ok (.getfield 26, 3) := by decide +kernel
theorem dX0_isSameExchanged_6 : decode cX0_isSameExchanged 6 = .ok (.aload_n 0, 1) := by decide +kernel
theorem dX0_isSameExchanged_7 : decode cX0_isSameExchanged 7 = .ok (.getfield 29, 3) := by decide +kernel
theorem dX0_isSameExchanged_10 : decode cX0_isSameExchanged 10 = .ok (.invokevirtual 46, 3) := by decide +kernel
theorem dX0_isSameExchanged_13 : decode cX0_isSameExchanged 13 = .ok (.pop, 1) := by decide +kernel
theorem dX0_isSameExchanged_14 : decode cX0_isSameExchanged 14 = .ok (.iconst 0, 1) := by decide +kernel
theorem dX0_isSameExchanged_15 : decode cX0_isSameExchanged 15 = .ok (.istore_n 1, 1) := by decide +kernel
theorem dX0_isSameExchanged_16 : decode cX0_isSameExchanged 16 = .ok (.iload_n 1, 1) := by decide +kernel
theorem dX0_isSameExchanged_17 : decode cX0_isSameExchanged 17 = .ok (.bipush 8, 2) := by decide +kernel
theorem dX0_isSameExchanged_19 : decode cX0_isSameExchanged 19 = .ok (.if_icmp .ge 26, 3) := by decide +kernel
theorem dX0_isSameExchanged_22 : decode cX0_isSameExchanged 22 = .ok (.aload_n 0, 1) := by decide +kernel
theorem dX0_isSameExchanged_23 : decode cX0_isSameExchanged 23 = .ok (.getfield 19, 3) := by decide +kernel
theorem dX0_isSameExchanged_26 : decode cX0_isSameExchanged 26 = .ok (.iload_n 1, 1) := by decide +kernel
theorem dX0_isSameExchanged_27 : decode cX0_isSameExchanged 27 = .ok (.iaload, 1) := by decide +kernel
theorem dX0_isSameExchanged_28 : decode cX0_isSameExchanged 28 = .ok (.aload_n 0, 1) := by decide +kernel
theorem dX0_isSameExchanged_29 : decode cX0_isSameExchanged 29 = .ok (.getfield 26, 3) := by decide +kernel
theorem dX0_isSameExchanged_32 : decode cX0_isSameExchanged 32 = .ok (.iload_n 1, 1) := by decide +kernel
theorem dX0_isSameExchanged_33 : decode cX0_isSameExchanged 33 = .ok (.iaload, 1) := by decide +kernel
theorem dX0_isSameExchanged_34 : decode cX0_isSameExchanged 34 = .ok (.if_icmp .eq 5, 3) := by decide +kernel
theorem dX0_isSameExchanged_37 : decode cX0_isSameExchanged 37 = .ok (.iconst 0, 1) := by decide +kernel
theorem dX0_isSameExchanged_38 : decode cX0_isSameExchanged 38 = .ok (.ireturn, 1) := by decide +kernel
theorem dX0_isSameExchanged_39 : decode cX0_isSameExchanged 39 = .ok (.iinc 1 1, 3) := by decide +kernel
theorem dX0_isSameExchanged_42 : decode cX0_isSameExchanged 42 = .ok (.goto (-26), 3) := by decide +kernel
theorem dX0_isSameExchanged_45 : decode cX0_isSameExchanged 45 = .ok (.iconst 1, 1) := by decide +kernel
theorem dX0_isSameExchanged_46 : decode cX0_isSameExchanged 46 = .ok (.ireturn, 1) := by decide +kernel
theorem dX0_turnedTriples_0 : decode cX0_turnedTriples 0 = .ok (.aload_n 1, 1) := by decide +kernel
theorem dX0_turnedTriples_1 : decode cX0_turnedTriples 1 = .ok (.iconst 0, 1) := by decide +kernel
theorem dX0_turnedTriples_2 : decode cX0_turnedTriples 2 = .ok (.invokevirtual 66, 3) := by decide +kernel
theorem dX0_turnedTriples_5 : decode cX0_turnedTriples 5 = .ok (.invokevirtual 70, 3) := by decide +kernel
theorem dX0_turnedTriples_8 : decode cX0_turnedTriples 8 = .ok (.istore_n 2, 1) := by decide +kernel
theorem dX0_turnedTriples_9 : decode cX0_turnedTriples 9 = .ok (.iconst 0, 1) := by decide +kernel
theorem dX0_turnedTriples_10 : decode cX0_turnedTriples 10 = .ok (.istore_n 3, 1) := by decide +kernel
theorem dX0_turnedTriples_11 : decode cX0_turnedTriples 11 = .ok (.iconst 0, 1) := by decide +kernel
theorem dX0_turnedTriples_12 : decode cX0_turnedTriples 12 = .ok (.istore 4, 2) := by decide +kernel
theorem dX0_turnedTriples_14 : decode cX0_turnedTriples 14 = .ok (.iload 4, 2) := by decide +kernel
theorem dX0_turnedTriples_16 : decode cX0_turnedTriples 16 = .ok (.iload_n 2, 1) := by decide +kernel
theorem dX0_turnedTriples_17 : decode cX0_turnedTriples 17 = .ok (.if_icmp .ge 75, 3) := by decide +kernel
theorem dX0_turnedTriples_20 : decode cX0_turnedTriples 20 = .ok (.iload 4, 2) := by decide +kernel
theorem dX0_turnedTriples_22 : decode cX0_turnedTriples 22 = .ok (.iconst 1, 1) := by decide +kernel
theorem dX0_turnedTriples_23 : decode cX0_turnedTriples 23 = .ok (.iadd, 1) := by decide +kernel
theorem dX0_turnedTriples_24 : decode cX0_turnedTriples 24 = .ok (.istore 5, 2) := by decide +kernel
theorem dX0_turnedTriples_26 : decode cX0_turnedTriples 26 = .ok (.iload 5, 2) := by decide +kernel
theorem dX0_turnedTriples_28 : decode cX0_turnedTriples 28 = .ok (.iload_n 2, 1) := by decide +kernel
theorem dX0_turnedTriples_29 : decode cX0_turnedTriples 29 = .ok (.if_icmp .ge 57, 3) := by decide +kernel
theorem dX0_turnedTriples_32 : decode cX0_turnedTriples 32 = .ok (.iload 5, 2) := by decide +kernel
theorem dX0_turnedTriples_34 : decode cX0_turnedTriples 34 = .ok (.iconst 1, 1) := by decide +kernel
theorem dX0_turnedTriples_35 : decode cX0_turnedTriples 35 = .ok (.iadd, 1) := by decide +kernel
theorem dX0_turnedTriples_36 : decode cX0_turnedTriples 36 = .ok (.istore 6, 2) := by decide +kernel
theorem dX0_turnedTriples_38 : decode cX0_turnedTriples 38 = .ok (.iload 6, 2) := by decide +kernel
theorem dX0_turnedTriples_40 : decode cX0_turnedTriples 40 = .ok (.iload_n 2, 1) := by decide +kernel
theorem dX0_turnedTriples_41 : decode cX0_turnedTriples 41 = .ok (.if_icmp .ge 39, 3) := by decide +kernel
theorem dX0_turnedTriples_44 : decode cX0_turnedTriples 44 = .ok (.aload_n 0, 1) := by decide +kernel
theorem dX0_turnedTriples_45 : decode cX0_turnedTriples 45 = .ok (.iload 4, 2) := by decide +kernel
theorem dX0_turnedTriples_47 : decode cX0_turnedTriples 47 = .ok (.iload 5, 2) := by decide +kernel
theorem dX0_turnedTriples_49 : decode cX0_turnedTriples 49 = .ok (.iload 6, 2) := by decide +kernel
theorem dX0_turnedTriples_51 : decode cX0_turnedTriples 51 = .ok (.invokevirtual 78, 3) := by decide +kernel
theorem dX0_turnedTriples_54 : decode cX0_turnedTriples 54 = .ok (.ifCond .eq 20, 3) := by decide +kernel
theorem dX0_turnedTriples_57 : decode cX0_turnedTriples 57 = .ok (.aload_n 0, 1) := by decide +kernel
theorem dX0_turnedTriples_58 : decode cX0_turnedTriples 58 = .ok (.aload_n 1, 1) := by decide +kernel
theorem dX0_turnedTriples_59 : decode cX0_turnedTriples 59 = .ok (.iload 4, 2) := by decide +kernel
theorem dX0_turnedTriples_61 : decode cX0_turnedTriples 61 = .ok (.iload 5, 2) := by decide +kernel
theorem dX0_turnedTriples_63 : decode cX0_turnedTriples 63 = .ok (.iload 6, 2) := by decide +kernel
theorem dX0_turnedTriples_65 : decode cX0_turnedTriples 65 = .ok (.invokevirtual 81, 3) := by decide +kernel
theorem dX0_turnedTriples_68 : decode cX0_turnedTriples 68 = .ok (.ifCond .eq 6, 3) := by decide +kernel
theorem dX0_turnedTriples_71 : decode cX0_turnedTriples 71 = .ok (.iinc 3 1, 3) := by decide +kernel
theorem dX0_turnedTriples_74 : decode cX0_turnedTriples 74 = .ok (.iinc 6 1, 3) := by decide +kernel
theorem dX0_turnedTriples_77 : decode cX0_turnedTriples 77 = .ok (.goto (-39), 3) := by decide +kernel
theorem dX0_turnedTriples_80 : decode cX0_turnedTriples 80 = .ok (.iinc 5 1, 3) := by decide +kernel
theorem dX0_turnedTriples_83 : decode cX0_turnedTriples 83 = .ok (.goto (-57), 3) := by decide +kernel
theorem dX0_turnedTriples_86 : decode cX0_turnedTriples 86 = .ok (.iinc 4 1, 3) := by decide +kernel
theorem dX0_turnedTriples_89 : decode cX0_turnedTriples 89 = .ok (.goto (-75), 3) := by decide +kernel
theorem dX0_turnedTriples_92 : decode cX0_turnedTriples 92 = .ok (.iload_n 3, 1) := by decide +kernel
theorem dX0_turnedTriples_93 : decode cX0_turnedTriples 93 = .ok (.ireturn, 1) := by decide +kernel
theorem dX0_areMatched_0 : decode cX0_areMatched 0 = .ok (.aload_n 0, 1) := by decide +kernel
theorem dX0_areMatched_1 : decode cX0_areMatched 1 = .ok (.iconst 0, 1) := by decide +kernel
theorem dX0_areMatched_2 : decode cX0_areMatched 2 = .ok (.iload_n 1, 1) := by decide +kernel
theorem dX0_areMatched_3 : decode cX0_areMatched 3 = .ok (.invokevirtual 75, 3) := by decide +kernel
theorem dX0_areMatched_6 : decode cX0_areMatched 6 = .ok (.iconst (-1), 1) := by decide +kernel
theorem dX0_areMatched_7 : decode cX0_areMatched 7 = .ok (.if_icmp .eq 27, 3) := by decide +kernel
theorem dX0_areMatched_10 : decode cX0_areMatched 10 = .ok (.aload_n 0, 1) := by decide +kernel
theorem dX0_areMatched_11 : decode cX0_areMatched 11 = .ok (.iconst 0, 1) := by decide +kernel
theorem dX0_areMatched_12 : decode cX0_areMatched 12 = .ok (.iload_n 2, 1) := by decide +kernel
theorem dX0_areMatched_13 : decode cX0_areMatched 13 = .ok (.invokevirtual 75, 3) := by decide +kernel
theorem dX0_areMatched_16 : decode cX0_areMatched 16 = .ok (.iconst (-1), 1) := by decide +kernel
theorem dX0_areMatched_17 : decode cX0_areMatched 17 = .ok (.if_icmp .eq 17, 3) := by decide +kernel
theorem dX0_areMatched_20 : decode cX0_areMatched 20 = .ok (.aload_n 0, 1) := by decide +kernel
theorem dX0_areMatched_21 : decode cX0_areMatched 21 = .ok (.iconst 0, 1) := by decide +kernel
theorem dX0_areMatched_22 : decode cX0_areMatched 22 = .ok (.iload_n 3, 1) := by decide +kernel
theorem dX0_areMatched_23 : decode cX0_areMatched 23 = .ok (.invokevirtual 75, 3) := by decide +kernel
theorem dX0_areMatched_26 : decode cX0_areMatched 26 = .ok (.iconst (-1), 1) := by decide +kernel
theorem dX0_areMatched_27 : decode cX0_areMatched 27 = .ok (.if_icmp .eq 7, 3) := by decide +kernel
theorem dX0_areMatched_30 : decode cX0_areMatched 30 = .ok (.iconst 1, 1) := by decide +kernel
theorem dX0_areMatched_31 : decode cX0_areMatched 31 = .ok (.goto 4, 3) := by decide +kernel
theorem dX0_areMatched_34 : decode cX0_areMatched 34 = .ok (.iconst 0, 1) := by decide +kernel
theorem dX0_areMatched_35 : decode cX0_areMatched 35 = .ok (.ireturn, 1) := by decide +kernel
theorem dX0_isTurned_0 : decode cX0_isTurned 0 = .ok (.aload_n 1, 1) := by decide +kernel
theorem dX0_isTurned_1 : decode cX0_isTurned 1 = .ok (.iconst 0, 1) := by decide +kernel
theorem dX0_isTurned_2 : decode cX0_isTurned 2 = .ok (.invokevirtual 66, 3) := by decide +kernel
theorem dX0_isTurned_5 : decode cX0_isTurned 5 = .ok (.iload_n 2, 1) := by decide +kernel
theorem dX0_isTurned_6 : decode cX0_isTurned 6 = .ok (.iload_n 3, 1) := by decide +kernel
theorem dX0_isTurned_7 : decode cX0_isTurned 7 = .ok (.iload 4, 2) := by decide +kernel
theorem dX0_isTurned_9 : decode cX0_isTurned 9 = .ok (.invokevirtual 85, 3) := by decide +kernel
theorem dX0_isTurned_12 : decode cX0_isTurned 12 = .ok (.istore 5, 2) := by decide +kernel
theorem dX0_isTurned_14 : decode cX0_isTurned 14 = .ok (.aload_n 1, 1) := by decide +kernel
theorem dX0_isTurned_15 : decode cX0_isTurned 15 = .ok (.iconst 1, 1) := by decide +kernel
theorem dX0_isTurned_16 : decode cX0_isTurned 16 = .ok (.invokevirtual 66, 3) := by decide +kernel
theorem dX0_isTurned_19 : decode cX0_isTurned 19 = .ok (.aload_n 0, 1) := by decide +kernel
theorem dX0_isTurned_20 : decode cX0_isTurned 20 = .ok (.iconst 0, 1) := by decide +kernel
theorem dX0_isTurned_21 : decode cX0_isTurned 21 = .ok (.iload_n 2, 1) := by decide +kernel
theorem dX0_isTurned_22 : decode cX0_isTurned 22 = .ok (.invokevirtual 75, 3) := by decide +kernel
theorem dX0_isTurned_25 : decode cX0_isTurned 25 = .ok (.aload_n 0, 1) := by decide +kernel
theorem dX0_isTurned_26 : decode cX0_isTurned 26 = .ok (.iconst 0, 1) := by decide +kernel
theorem dX0_isTurned_27 : decode cX0_isTurned 27 = .ok (.iload_n 3, 1) := by decide +kernel
theorem dX0_isTurned_28 : decode cX0_isTurned 28 = .ok (.invokevirtual 75, 3) := by decide +kernel
theorem dX0_isTurned_31 : decode cX0_isTurned 31 = .ok (.aload_n 0, 1) := by decide +kernel
theorem dX0_isTurned_32 : decode cX0_isTurned 32 = .ok (.iconst 0, 1) := by decide +kernel
theorem dX0_isTurned_33 : decode cX0_isTurned 33 = .ok (.iload 4, 2) := by decide +kernel
theorem dX0_isTurned_35 : decode cX0_isTurned 35 = .ok (.invokevirtual 75, 3) := by decide +kernel
theorem dX0_isTurned_38 : decode cX0_isTurned 38 = .ok (.invokevirtual 85, 3) := by decide +kernel
theorem dX0_isTurned_41 : decode cX0_isTurned 41 = .ok (.istore 6, 2) := by decide +kernel
theorem dX0_isTurned_43 : decode cX0_isTurned 43 = .ok (.iload 5, 2) := by decide +kernel
theorem dX0_isTurned_45 : decode cX0_isTurned 45 = .ok (.ifCond .le 8, 3) := by decide +kernel
theorem dX0_isTurned_48 : decode cX0_isTurned 48 = .ok (.iload 6, 2) := by decide +kernel
theorem dX0_isTurned_50 : decode cX0_isTurned 50 = .ok (.ifCond .lt 13, 3) := by decide +kernel
theorem dX0_isTurned_53 : decode cX0_isTurned 53 = .ok (.iload 5, 2) := by decide +kernel
theorem dX0_isTurned_55 : decode cX0_isTurned 55 = .ok (.ifCond .ge 12, 3) := by decide +kernel
theorem dX0_isTurned_58 : decode cX0_isTurned 58 = .ok (.iload 6, 2) := by decide +kernel
theorem dX0_isTurned_60 : decode cX0_isTurned 60 = .ok (.ifCond .le 7, 3) := by decide +kernel
theorem dX0_isTurned_63 : decode cX0_isTurned 63 = .ok (.iconst 1, 1) := by decide +kernel
theorem dX0_isTurned_64 : decode cX0_isTurned 64 = .ok (.goto 4, 3) := by decide +kernel
theorem dX0_isTurned_67 : decode cX0_isTurned 67 = .ok (.iconst 0, 1) := by decide +kernel
theorem dX0_isTurned_68 : decode cX0_isTurned 68 = .ok (.ireturn, 1) := by decide +kernel
theorem dX0_areNumbers_0 : decode cX0_areNumbers 0 = .ok (.iload_n 0, 1) := by decide +kernel
theorem dX0_areNumbers_1 : decode cX0_areNumbers 1 = .ok (.ifCond .lt 23, 3) := by decide +kernel
theorem dX0_areNumbers_4 : decode cX0_areNumbers 4 = .ok (.iload_n 0, 1) := by decide +kernel
theorem dX0_areNumbers_5 : decode cX0_areNumbers 5 = .ok (.bipush 8, 2) := by decide +kernel
theorem dX0_areNumbers_7 : decode cX0_areNumbers 7 = .ok (.if_icmp .ge 17, 3) := by decide +kernel
theorem dX0_areNumbers_10 : decode cX0_areNumbers 10 = .ok (.iload_n 1, 1) := by decide +kernel
theorem dX0_areNumbers_11 : decode cX0_areNumbers 11 = .ok (.ifCond .lt 13, 3) := by decide +kernel
theorem dX0_areNumbers_14 : decode cX0_areNumbers 14 = .ok (.iload_n 1, 1) := by decide +kernel
theorem dX0_areNumbers_15 : decode cX0_areNumbers 15 = .ok (.bipush 8, 2) := by decide +kernel
theorem dX0_areNumbers_17 : decode cX0_areNumbers 17 = .ok (.if_icmp .ge 7, 3) := by decide +kernel
theorem dX0_areNumbers_20 : decode cX0_areNumbers 20 = .ok (.iconst 1, 1) := by decide +kernel
theorem dX0_areNumbers_21 : decode cX0_areNumbers 21 = .ok (.goto 4, 3) := by decide +kernel
theorem dX0_areNumbers_24 : decode cX0_areNumbers 24 = .ok (.iconst 0, 1) := by decide +kernel
theorem dX0_areNumbers_25 : decode cX0_areNumbers 25 = .ok (.ireturn, 1) := by decide +kernel
theorem dX0_firstBelief_0 : decode cX0_firstBelief 0 = .ok (.aload_n 0, 1) := by decide +kernel
theorem dX0_firstBelief_1 : decode cX0_firstBelief 1 = .ok (.iconst 0, 1) := by decide +kernel
theorem dX0_firstBelief_2 : decode cX0_firstBelief 2 = .ok (.invokevirtual 66, 3) := by decide +kernel
theorem dX0_firstBelief_5 : decode cX0_firstBelief 5 = .ok (.iload_n 1, 1) := by decide +kernel
theorem dX0_firstBelief_6 : decode cX0_firstBelief 6 = .ok (.invokevirtual 89, 3) := by decide +kernel
theorem dX0_firstBelief_9 : decode cX0_firstBelief 9 = .ok (.ifCond .eq 15, 3) := by decide +kernel
theorem dX0_firstBelief_12 : decode cX0_firstBelief 12 = .ok (.aload_n 0, 1) := by decide +kernel
theorem dX0_firstBelief_13 : decode cX0_firstBelief 13 = .ok (.iconst 1, 1) := by decide +kernel
theorem dX0_firstBelief_14 : decode cX0_firstBelief 14 = .ok (.invokevirtual 66, 3) := by decide +kernel
theorem dX0_firstBelief_17 : decode cX0_firstBelief 17 = .ok (.iload_n 2, 1) := by decide +kernel
theorem dX0_firstBelief_18 : decode cX0_firstBelief 18 = .ok (.invokevirtual 89, 3) := by decide +kernel
theorem dX0_firstBelief_21 : decode cX0_firstBelief 21 = .ok (.ifCond .ne 5, 3) := by decide +kernel
theorem dX0_firstBelief_24 : decode cX0_firstBelief 24 = .ok (.iconst 0, 1) := by decide +kernel
theorem dX0_firstBelief_25 : decode cX0_firstBelief 25 = .ok (.ireturn, 1) := by decide +kernel
theorem dX0_firstBelief_26 : decode cX0_firstBelief 26 = .ok (.aload_n 0, 1) := by decide +kernel
theorem dX0_firstBelief_27 : decode cX0_firstBelief 27 = .ok (.iconst 0, 1) := by decide +kernel
theorem dX0_firstBelief_28 : decode cX0_firstBelief 28 = .ok (.iload_n 1, 1) := by decide +kernel
theorem dX0_firstBelief_29 : decode cX0_firstBelief 29 = .ok (.invokevirtual 93, 3) := by decide +kernel
theorem dX0_firstBelief_32 : decode cX0_firstBelief 32 = .ok (.aload_n 0, 1) := by decide +kernel
theorem dX0_firstBelief_33 : decode cX0_firstBelief 33 = .ok (.iconst 1, 1) := by decide +kernel
theorem dX0_firstBelief_34 : decode cX0_firstBelief 34 = .ok (.iload_n 2, 1) := by decide +kernel
theorem dX0_firstBelief_35 : decode cX0_firstBelief 35 = .ok (.invokevirtual 93, 3) := by decide +kernel
theorem dX0_firstBelief_38 : decode cX0_firstBelief 38 = .ok (.invokestatic 96, 3) := by decide +kernel
theorem dX0_firstBelief_41 : decode cX0_firstBelief 41 = .ok (.istore_n 3, 1) := by decide +kernel
theorem dX0_firstBelief_42 : decode cX0_firstBelief 42 = .ok (.aload_n 0, 1) := by decide +kernel
theorem dX0_firstBelief_43 : decode cX0_firstBelief 43 = .ok (.iload_n 1, 1) := by decide +kernel
theorem dX0_firstBelief_44 : decode cX0_firstBelief 44 = .ok (.iload_n 2, 1) := by decide +kernel
theorem dX0_firstBelief_45 : decode cX0_firstBelief 45 = .ok (.invokevirtual 101, 3) := by decide +kernel
theorem dX0_firstBelief_48 : decode cX0_firstBelief 48 = .ok (.istore 4, 2) := by decide +kernel
theorem dX0_firstBelief_50 : decode cX0_firstBelief 50 = .ok (.iload 4, 2) := by decide +kernel
theorem dX0_firstBelief_52 : decode cX0_firstBelief 52 = .ok (.iload_n 3, 1) := by decide +kernel
theorem dX0_firstBelief_53 : decode cX0_firstBelief 53 = .ok (.iload_n 3, 1) := by decide +kernel
theorem dX0_firstBelief_54 : decode cX0_firstBelief 54 = .ok (.imul, 1) := by decide +kernel
theorem dX0_firstBelief_55 : decode cX0_firstBelief 55 = .ok (.if_icmp .le 5, 3) := by decide +kernel
theorem dX0_firstBelief_58 : decode cX0_firstBelief 58 = .ok (.iconst 0, 1) := by decide +kernel
theorem dX0_firstBelief_59 : decode cX0_firstBelief 59 = .ok (.ireturn, 1) := by decide +kernel
theorem dX0_firstBelief_60 : decode cX0_firstBelief 60 = .ok (.iconst 1, 1) := by decide +kernel
theorem dX0_firstBelief_61 : decode cX0_firstBelief 61 = .ok (.aload_n 0, 1) := by decide +kernel
theorem dX0_firstBelief_62 : decode cX0_firstBelief 62 = .ok (.invokevirtual 104, 3) := by decide +kernel
theorem dX0_firstBelief_65 : decode cX0_firstBelief 65 = .ok (.aload_n 0, 1) := by decide +kernel
theorem dX0_firstBelief_66 : decode cX0_firstBelief 66 = .ok (.invokevirtual 104, 3) := by decide +kernel
theorem dX0_firstBelief_69 : decode cX0_firstBelief 69 = .ok (.imul, 1) := by decide +kernel
theorem dX0_firstBelief_70 : decode cX0_firstBelief 70 = .ok (.iconst 1, 1) := by decide +kernel
theorem dX0_firstBelief_71 : decode cX0_firstBelief 71 = .ok (.iadd, 1) := by decide +kernel
theorem dX0_firstBelief_72 : decode cX0_firstBelief 72 = .ok (.iload 4, 2) := by decide +kernel
theorem dX0_firstBelief_74 : decode cX0_firstBelief 74 = .ok (.isub, 1) := by decide +kernel
theorem dX0_firstBelief_75 : decode cX0_firstBelief 75 = .ok (.invokestatic 107, 3) := by decide +kernel
theorem dX0_firstBelief_78 : decode cX0_firstBelief 78 = .ok (.ireturn, 1) := by decide +kernel
theorem dX0_improve_0 : decode cX0_improve 0 = .ok (.iconst 0, 1) := by decide +kernel
theorem dX0_improve_1 : decode cX0_improve 1 = .ok (.istore_n 2, 1) := by decide +kernel
theorem dX0_improve_2 : decode cX0_improve 2 = .ok (.iload_n 2, 1) := by decide +kernel
theorem dX0_improve_3 : decode cX0_improve 3 = .ok (.bipush 8, 2) := by decide +kernel
theorem dX0_improve_5 : decode cX0_improve 5 = .ok (.if_icmp .ge 28, 3) := by decide +kernel
theorem dX0_improve_8 : decode cX0_improve 8 = .ok (.aload_n 0, 1) := by decide +kernel
theorem dX0_improve_9 : decode cX0_improve 9 = .ok (.getfield 11, 3) := by decide +kernel
theorem dX0_improve_12 : decode cX0_improve 12 = .ok (.iload_n 2, 1) := by decide +kernel
theorem dX0_improve_13 : decode cX0_improve 13 = .ok (.aaload, 1) := by decide +kernel
theorem dX0_improve_14 : decode cX0_improve 14 = .ok (.iconst 0, 1) := by decide +kernel
theorem dX0_improve_15 : decode cX0_improve 15 = .ok (.aload_n 0, 1) := by decide +kernel
theorem dX0_improve_16 : decode cX0_improve 16 = .ok (.getfield 16, 3) := by decide +kernel
theorem dX0_improve_19 : decode cX0_improve 19 = .ok (.iload_n 2, 1) := by decide +kernel
theorem dX0_improve_20 : decode cX0_improve 20 = .ok (.aaload, 1) := by decide +kernel
theorem dX0_improve_21 : decode cX0_improve 21 = .ok (.iconst 0, 1) := by decide +kernel
theorem dX0_improve_22 : decode cX0_improve 22 = .ok (.bipush 8, 2) := by decide +kernel
theorem dX0_improve_24 : decode cX0_improve 24 = .ok (.invokestatic 110, 3) := by decide +kernel
theorem dX0_improve_27 : decode cX0_improve 27 = .ok (.iinc 2 1, 3) := by decide +kernel
theorem dX0_improve_30 : decode cX0_improve 30 = .ok (.goto (-28), 3) := by decide +kernel
theorem dX0_improve_33 : decode cX0_improve 33 = .ok (.iconst 0, 1) := by decide +kernel
theorem dX0_improve_34 : decode cX0_improve 34 = .ok (.istore_n 2, 1) := by decide +kernel
theorem dX0_improve_35 : decode cX0_improve 35 = .ok (.iload_n 2, 1) := by decide +kernel
theorem dX0_improve_36 : decode cX0_improve 36 = .ok (.bipush 8, 2) := by decide +kernel
theorem dX0_improve_38 : decode cX0_improve 38 = .ok (.if_icmp .ge 77, 3) := by decide +kernel
theorem dX0_improve_41 : decode cX0_improve 41 = .ok (.iconst 0, 1) := by decide +kernel
theorem dX0_improve_42 : decode cX0_improve 42 = .ok (.istore_n 3, 1) := by decide +kernel
theorem dX0_improve_43 : decode cX0_improve 43 = .ok (.iload_n 3, 1) := by decide +kernel
theorem dX0_improve_44 : decode cX0_improve 44 = .ok (.bipush 8, 2) := by decide +kernel
theorem dX0_improve_46 : decode cX0_improve 46 = .ok (.if_icmp .ge 63, 3) := by decide +kernel
theorem dX0_improve_49 : decode cX0_improve 49 = .ok (.aload_n 0, 1) := by decide +kernel
theorem dX0_improve_50 : decode cX0_improve 50 = .ok (.getfield 16, 3) := by decide +kernel
theorem dX0_improve_53 : decode cX0_improve 53 = .ok (.iload_n 2, 1) := by decide +kernel
theorem dX0_improve_54 : decode cX0_improve 54 = .ok (.aaload, 1) := by decide +kernel
theorem dX0_improve_55 : decode cX0_improve 55 = .ok (.iload_n 3, 1) := by decide +kernel
theorem dX0_improve_56 : decode cX0_improve 56 = .ok (.iaload, 1) := by decide +kernel
theorem dX0_improve_57 : decode cX0_improve 57 = .ok (.ifCond .le 46, 3) := by decide +kernel
theorem dX0_improve_60 : decode cX0_improve 60 = .ok (.aload_n 0, 1) := by decide +kernel
theorem dX0_improve_61 : decode cX0_improve 61 = .ok (.aload_n 1, 1) := by decide +kernel
theorem dX0_improve_62 : decode cX0_improve 62 = .ok (.iconst 0, 1) := by decide +kernel
theorem dX0_improve_63 : decode cX0_improve 63 = .ok (.iload_n 2, 1) := by decide +kernel
theorem dX0_improve_64 : decode cX0_improve 64 = .ok (.iload_n 3, 1) := by decide +kernel
theorem dX0_improve_65 : decode cX0_improve 65 = .ok (.invokevirtual 116, 3) := by decide +kernel
theorem dX0_improve_68 : decode cX0_improve 68 = .ok (.aload_n 0, 1) := by decide +kernel
theorem dX0_improve_69 : decode cX0_improve 69 = .ok (.aload_n 1, 1) := by decide +kernel
theorem dX0_improve_70 : decode cX0_improve 70 = .ok (.iconst 1, 1) := by decide +kernel
theorem dX0_improve_71 : decode cX0_improve 71 = .ok (.iload_n 3, 1) := by decide +kernel
theorem dX0_improve_72 : decode cX0_improve 72 = .ok (.iload_n 2, 1) := by decide +kernel
theorem dX0_improve_73 : decode cX0_improve 73 = .ok (.invokevirtual 116, 3) := by decide +kernel
theorem dX0_improve_76 : decode cX0_improve 76 = .ok (.iadd, 1) := by decide +kernel
theorem dX0_improve_77 : decode cX0_improve 77 = .ok (.istore 4, 2) := by decide +kernel
theorem dX0_improve_79 : decode cX0_improve 79 = .ok (.aload_n 0, 1) := by decide +kernel
theorem dX0_improve_80 : decode cX0_improve 80 = .ok (.getfield 11, 3) := by decide +kernel
theorem dX0_improve_83 : decode cX0_improve 83 = .ok (.iload_n 2, 1) := by decide +kernel
theorem dX0_improve_84 : decode cX0_improve 84 = .ok (.aaload, 1) := by decide +kernel
theorem dX0_improve_85 : decode cX0_improve 85 = .ok (.iload_n 3, 1) := by decide +kernel
theorem dX0_improve_86 : decode cX0_improve 86 = .ok (.aload_n 0, 1) := by decide +kernel
theorem dX0_improve_87 : decode cX0_improve 87 = .ok (.getfield 16, 3) := by decide +kernel
theorem dX0_improve_90 : decode cX0_improve 90 = .ok (.iload_n 2, 1) := by decide +kernel
theorem dX0_improve_91 : decode cX0_improve 91 = .ok (.aaload, 1) := by decide +kernel
theorem dX0_improve_92 : decode cX0_improve 92 = .ok (.iload_n 3, 1) := by decide +kernel
theorem dX0_improve_93 : decode cX0_improve 93 = .ok (.iaload, 1) := by decide +kernel
theorem dX0_improve_94 : decode cX0_improve 94 = .ok (.iconst 2, 1) := by decide +kernel
theorem dX0_improve_95 : decode cX0_improve 95 = .ok (.idiv, 1) := by decide +kernel
theorem dX0_improve_96 : decode cX0_improve 96 = .ok (.iload 4, 2) := by decide +kernel
theorem dX0_improve_98 : decode cX0_improve 98 = .ok (.bipush 8, 2) := by decide +kernel
theorem dX0_improve_100 : decode cX0_improve 100 = .ok (.idiv, 1) := by decide +kernel
theorem dX0_improve_101 : decode cX0_improve 101 = .ok (.iadd, 1) := by decide +kernel
theorem dX0_improve_102 : decode cX0_improve 102 = .ok (.iastore, 1) := by decide +kernel
theorem dX0_improve_103 : decode cX0_improve 103 = .ok (.iinc 3 1, 3) := by decide +kernel
theorem dX0_improve_106 : decode cX0_improve 106 = .ok (.goto (-63), 3) := by decide +kernel
theorem dX0_improve_109 : decode cX0_improve 109 = .ok (.iinc 2 1, 3) := by decide +kernel
theorem dX0_improve_112 : decode cX0_improve 112 = .ok (.goto (-77), 3) := by decide +kernel
theorem dX0_improve_115 : decode cX0_improve 115 = .ok (.return_, 1) := by decide +kernel
theorem dX0_support_0 : decode cX0_support 0 = .ok (.aload_n 1, 1) := by decide +kernel
theorem dX0_support_1 : decode cX0_support 1 = .ok (.iload_n 2, 1) := by decide +kernel
theorem dX0_support_2 : decode cX0_support 2 = .ok (.invokevirtual 66, 3) := by decide +kernel
theorem dX0_support_5 : decode cX0_support 5 = .ok (.astore 5, 2) := by decide +kernel
theorem dX0_support_7 : decode cX0_support 7 = .ok (.aload_n 1, 1) := by decide +kernel
theorem dX0_support_8 : decode cX0_support 8 = .ok (.iconst 1, 1) := by decide +kernel
theorem dX0_support_9 : decode cX0_support 9 = .ok (.iload_n 2, 1) := by decide +kernel
theorem dX0_support_10 : decode cX0_support 10 = .ok (.isub, 1) := by decide +kernel
theorem dX0_support_11 : decode cX0_support 11 = .ok (.invokevirtual 66, 3) := by decide +kernel
theorem dX0_support_14 : decode cX0_support 14 = .ok (.astore 6, 2) := by decide +kernel
theorem dX0_support_16 : decode cX0_support 16 = .ok (.iconst 0, 1) := by decide +kernel
theorem dX0_support_17 : decode cX0_support 17 = .ok (.istore 7, 2) := by decide +kernel
theorem dX0_support_19 : decode cX0_support 19 = .ok (.iconst 0, 1) := by decide +kernel
theorem dX0_support_20 : decode cX0_support 20 = .ok (.istore 8, 2) := by decide +kernel
theorem dX0_support_22 : decode cX0_support 22 = .ok (.iload 8, 2) := by decide +kernel
theorem dX0_support_24 : decode cX0_support 24 = .ok (.aload 5, 2) := by decide +kernel
theorem dX0_support_26 : decode cX0_support 26 = .ok (.invokevirtual 120, 3) := by decide +kernel
theorem dX0_support_29 : decode cX0_support 29 = .ok (.if_icmp .ge 99, 3) := by decide +kernel
theorem dX0_support_32 : decode cX0_support 32 = .ok (.aload 5, 2) := by decide +kernel
theorem dX0_support_34 : decode cX0_support 34 = .ok (.iload 8, 2) := by decide +kernel
theorem dX0_support_36 : decode cX0_support 36 = .ok (.iload_n 3, 1) := by decide +kernel
theorem dX0_support_37 : decode cX0_support 37 = .ok (.invokevirtual 123, 3) := by decide +kernel
theorem dX0_support_40 : decode cX0_support 40 = .ok (.istore 9, 2) := by decide +kernel
theorem dX0_support_42 : decode cX0_support 42 = .ok (.iconst 0, 1) := by decide +kernel
theorem dX0_support_43 : decode cX0_support 43 = .ok (.istore 10, 2) := by decide +kernel
theorem dX0_support_45 : decode cX0_support 45 = .ok (.iconst 0, 1) := by decide +kernel
theorem dX0_support_46 : decode cX0_support 46 = .ok (.istore 11, 2) := by decide +kernel
theorem dX0_support_48 : decode cX0_support 48 = .ok (.iload 9, 2) := by decide +kernel
theorem dX0_support_50 : decode cX0_support 50 = .ok (.iconst (-1), 1) := by decide +kernel
theorem dX0_support_51 : decode cX0_support 51 = .ok (.if_icmp .eq 64, 3) := by decide +kernel
theorem dX0_support_54 : decode cX0_support 54 = .ok (.iload 11, 2) := by decide +kernel
theorem dX0_support_56 : decode cX0_support 56 = .ok (.aload 6, 2) := by decide +kernel
theorem dX0_support_58 : decode cX0_support 58 = .ok (.invokevirtual 120, 3) := by decide +kernel
theorem dX0_support_61 : decode cX0_support 61 = .ok (.if_icmp .ge 54, 3) := by decide +kernel
theorem dX0_support_64 : decode cX0_support 64 = .ok (.aload 6, 2) := by decide +kernel
theorem dX0_support_66 : decode cX0_support 66 = .ok (.iload 11, 2) := by decide +kernel
theorem dX0_support_68 : decode cX0_support 68 = .ok (.iload 4, 2) := by decide +kernel
theorem dX0_support_70 : decode cX0_support 70 = .ok (.invokevirtual 123, 3) := by decide +kernel
theorem dX0_support_73 : decode cX0_support 73 = .ok (.istore 12, 2) := by decide +kernel
theorem dX0_support_75 : decode cX0_support 75 = .ok (.iload_n 2, 1) := by decide +kernel
theorem dX0_support_76 : decode cX0_support 76 = .ok (.ifCond .ne 14, 3) := by decide +kernel
theorem dX0_support_79 : decode cX0_support 79 = .ok (.aload_n 0, 1) := by decide +kernel
theorem dX0_support_80 : decode cX0_support 80 = .ok (.iload 9, 2) := by decide +kernel
theorem dX0_support_82 : decode cX0_support 82 = .ok (.iload 12, 2) := by decide +kernel
theorem dX0_support_84 : decode cX0_support 84 = .ok (.invokevirtual 126, 3) := by decide +kernel
theorem dX0_support_87 : decode cX0_support 87 = .ok (.goto 11, 3) := by decide +kernel
theorem dX0_support_90 : decode cX0_support 90 = .ok (.aload_n 0, 1) := by decide +kernel
theorem dX0_support_91 : decode cX0_support 91 = .ok (.iload 12, 2) := by decide +kernel
theorem dX0_support_93 : decode cX0_support 93 = .ok (.iload 9, 2) := by decide +kernel
theorem dX0_support_95 : decode cX0_support 95 = .ok (.invokevirtual 126, 3) := by decide +kernel
theorem dX0_support_98 : decode cX0_support 98 = .ok (.istore 13, 2) := by decide +kernel
theorem dX0_support_100 : decode cX0_support 100 = .ok (.iload 10, 2) := by decide +kernel
theorem dX0_support_102 : decode cX0_support 102 = .ok (.iload 13, 2) := by decide +kernel
theorem dX0_support_104 : decode cX0_support 104 = .ok (.invokestatic 107, 3) := by decide +kernel
theorem dX0_support_107 : decode cX0_support 107 = .ok (.istore 10, 2) := by decide +kernel
theorem dX0_support_109 : decode cX0_support 109 = .ok (.iinc 11 1, 3) := by decide +kernel
theorem dX0_support_112 : decode cX0_support 112 = .ok (.goto (-64), 3) := by decide +kernel
theorem dX0_support_115 : decode cX0_support 115 = .ok (.iload 7, 2) := by decide +kernel
theorem dX0_support_117 : decode cX0_support 117 = .ok (.iload 10, 2) := by decide +kernel
theorem dX0_support_119 : decode cX0_support 119 = .ok (.iadd, 1) := by decide +kernel
theorem dX0_support_120 : decode cX0_support 120 = .ok (.istore 7, 2) := by decide +kernel
theorem dX0_support_122 : decode cX0_support 122 = .ok (.iinc 8 1, 3) := by decide +kernel
theorem dX0_support_125 : decode cX0_support 125 = .ok (.goto (-103), 3) := by decide +kernel
theorem dX0_support_128 : decode cX0_support 128 = .ok (.iload 7, 2) := by decide +kernel
theorem dX0_support_130 : decode cX0_support 130 = .ok (.ireturn, 1) := by decide +kernel
theorem dX0_beliefBefore_0 : decode cX0_beliefBefore 0 = .ok (.iload_n 1, 1) := by decide +kernel
theorem dX0_beliefBefore_1 : decode cX0_beliefBefore 1 = .ok (.iload_n 2, 1) := by decide +kernel
theorem dX0_beliefBefore_2 : decode cX0_beliefBefore 2 = .ok (.invokestatic 54, 3) := by decide +kernel
theorem dX0_beliefBefore_5 : decode cX0_beliefBefore 5 = .ok (.ifCond .eq 14, 3) := by decide +kernel
theorem dX0_beliefBefore_8 : decode cX0_beliefBefore 8 = .ok (.aload_n 0, 1) := by decide +kernel
theorem dX0_beliefBefore_9 : decode cX0_beliefBefore 9 = .ok (.getfield 16, 3) := by decide +kernel
theorem dX0_beliefBefore_12 : decode cX0_beliefBefore 12 = .ok (.iload_n 1, 1) := by decide +kernel
theorem dX0_beliefBefore_13 : decode cX0_beliefBefore 13 = .ok (.aaload, 1) := by decide +kernel
theorem dX0_beliefBefore_14 : decode cX0_beliefBefore 14 = .ok (.iload_n 2, 1) := by decide +kernel
theorem dX0_beliefBefore_15 : decode cX0_beliefBefore 15 = .ok (.iaload, 1) := by decide +kernel
theorem dX0_beliefBefore_16 : decode cX0_beliefBefore 16 = .ok (.goto 4, 3) := by decide +kernel
theorem dX0_beliefBefore_19 : decode cX0_beliefBefore 19 = .ok (.iconst 0, 1) := by decide +kernel
theorem dX0_beliefBefore_20 : decode cX0_beliefBefore 20 = .ok (.ireturn, 1) := by decide +kernel
theorem dX0_pairUp_0 : decode cX0_pairUp 0 = .ok (.iconst 0, 1) := by decide +kernel
theorem dX0_pairUp_1 : decode cX0_pairUp 1 = .ok (.istore 4, 2) := by decide +kernel
theorem dX0_pairUp_3 : decode cX0_pairUp 3 = .ok (.iload 4, 2) := by decide +kernel
theorem dX0_pairUp_5 : decode cX0_pairUp 5 = .ok (.bipush 8, 2) := by decide +kernel
theorem dX0_pairUp_7 : decode cX0_pairUp 7 = .ok (.if_icmp .ge 19, 3) := by decide +kernel
theorem dX0_pairUp_10 : decode cX0_pairUp 10 = .ok (.aload_n 2, 1) := by decide +kernel
theorem dX0_pairUp_11 : decode cX0_pairUp 11 = .ok (.iload 4, 2) := by decide +kernel
theorem dX0_pairUp_13 : decode cX0_pairUp 13 = .ok (.iconst (-1), 1) := by decide +kernel
theorem dX0_pairUp_14 : decode cX0_pairUp 14 = .ok (.iastore, 1) := by decide +kernel
theorem dX0_pairUp_15 : decode cX0_pairUp 15 = .ok (.aload_n 3, 1) := by decide +kernel
theorem dX0_pairUp_16 : decode cX0_pairUp 16 = .ok (.iload 4, 2) := by decide +kernel
theorem dX0_pairUp_18 : decode cX0_pairUp 18 = .ok (.iconst (-1), 1) := by decide +kernel
theorem dX0_pairUp_19 : decode cX0_pairUp 19 = .ok (.iastore, 1) := by decide +kernel
theorem dX0_pairUp_20 : decode cX0_pairUp 20 = .ok (.iinc 4 1, 3) := by decide +kernel
theorem dX0_pairUp_23 : decode cX0_pairUp 23 = .ok (.goto (-20), 3) := by decide +kernel
theorem dX0_pairUp_26 : decode cX0_pairUp 26 = .ok (.iconst 0, 1) := by decide +kernel
theorem dX0_pairUp_27 : decode cX0_pairUp 27 = .ok (.istore 4, 2) := by decide +kernel
theorem dX0_pairUp_29 : decode cX0_pairUp 29 = .ok (.iload 4, 2) := by decide +kernel
theorem dX0_pairUp_31 : decode cX0_pairUp 31 = .ok (.bipush 8, 2) := by decide +kernel
theorem dX0_pairUp_33 : decode cX0_pairUp 33 = .ok (.if_icmp .ge 19, 3) := by decide +kernel
theorem dX0_pairUp_36 : decode cX0_pairUp 36 = .ok (.aload_n 0, 1) := by decide +kernel
theorem dX0_pairUp_37 : decode cX0_pairUp 37 = .ok (.iload_n 1, 1) := by decide +kernel
theorem dX0_pairUp_38 : decode cX0_pairUp 38 = .ok (.aload_n 2, 1) := by decide +kernel
theorem dX0_pairUp_39 : decode cX0_pairUp 39 = .ok (.aload_n 3, 1) := by decide +kernel
theorem dX0_pairUp_40 : decode cX0_pairUp 40 = .ok (.invokevirtual 129, 3) := by decide +kernel
theorem dX0_pairUp_43 : decode cX0_pairUp 43 = .ok (.ifCond .eq 9, 3) := by decide +kernel
theorem dX0_pairUp_46 : decode cX0_pairUp 46 = .ok (.iinc 4 1, 3) := by decide +kernel
theorem dX0_pairUp_49 : decode cX0_pairUp 49 = .ok (.goto (-20), 3) := by decide +kernel
theorem dX0_pairUp_52 : decode cX0_pairUp 52 = .ok (.iload 4, 2) := by decide +kernel
theorem dX0_pairUp_54 : decode cX0_pairUp 54 = .ok (.ireturn, 1) := by decide +kernel
theorem dX0_pairUpOne_0 : decode cX0_pairUpOne 0 = .ok (.iconst 0, 1) := by decide +kernel
theorem dX0_pairUpOne_1 : decode cX0_pairUpOne 1 = .ok (.istore 4, 2) := by decide +kernel
theorem dX0_pairUpOne_3 : decode cX0_pairUpOne 3 = .ok (.iconst 0, 1) := by decide +kernel
theorem dX0_pairUpOne_4 : decode cX0_pairUpOne 4 = .ok (.istore 5, 2) := by decide +kernel
theorem dX0_pairUpOne_6 : decode cX0_pairUpOne 6 = .ok (.iconst 0, 1) := by decide +kernel
theorem dX0_pairUpOne_7 : decode cX0_pairUpOne 7 = .ok (.istore 6, 2) := by decide +kernel
theorem dX0_pairUpOne_9 : decode cX0_pairUpOne 9 = .ok (.iconst 0, 1) := by decide +kernel
theorem dX0_pairUpOne_10 : decode cX0_pairUpOne 10 = .ok (.istore 7, 2) := by decide +kernel
theorem dX0_pairUpOne_12 : decode cX0_pairUpOne 12 = .ok (.iload 7, 2) := by decide +kernel
theorem dX0_pairUpOne_14 : decode cX0_pairUpOne 14 = .ok (.bipush 8, 2) := by decide +kernel
theorem dX0_pairUpOne_16 : decode cX0_pairUpOne 16 = .ok (.if_icmp .ge 102, 3) := by decide +kernel
theorem dX0_pairUpOne_19 : decode cX0_pairUpOne 19 = .ok (.iconst 0, 1) := by decide +kernel
theorem dX0_pairUpOne_20 : decode cX0_pairUpOne 20 = .ok (.istore 8, 2) := by decide +kernel
theorem dX0_pairUpOne_22 : decode cX0_pairUpOne 22 = .ok (.iload 8, 2) := by decide +kernel
theorem dX0_pairUpOne_24 : decode cX0_pairUpOne 24 = .ok (.bipush 8, 2) := by decide +kernel
theorem dX0_pairUpOne_26 : decode cX0_pairUpOne 26 = .ok (.if_icmp .ge 86, 3) := by decide +kernel
theorem dX0_pairUpOne_29 : decode cX0_pairUpOne 29 = .ok (.iload_n 1, 1) := by decide +kernel
theorem dX0_pairUpOne_30 : decode cX0_pairUpOne 30 = .ok (.ifCond .ne 8, 3) := by decide +kernel
theorem dX0_pairUpOne_33 : decode cX0_pairUpOne 33 = .ok (.iload 7, 2) := by decide +kernel
theorem dX0_pairUpOne_35 : decode cX0_pairUpOne 35 = .ok (.goto 5, 3) := by decide +kernel
theorem dX0_pairUpOne_38 : decode cX0_pairUpOne 38 = .ok (.iload 8, 2) := by decide +kernel
theorem dX0_pairUpOne_40 : decode cX0_pairUpOne 40 = .ok (.istore 9, 2) := by decide +kernel
theorem dX0_pairUpOne_42 : decode cX0_pairUpOne 42 = .ok (.iload_n 1, 1) := by decide +kernel
theorem dX0_pairUpOne_43 : decode cX0_pairUpOne 43 = .ok (.ifCond .ne 8, 3) := by decide +kernel
theorem dX0_pairUpOne_46 : decode cX0_pairUpOne 46 = .ok (.iload 8, 2) := by decide +kernel
theorem dX0_pairUpOne_48 : decode cX0_pairUpOne 48 = .ok (.goto 5, 3) := by decide +kernel
theorem dX0_pairUpOne_51 : decode cX0_pairUpOne 51 = .ok (.iload 7, 2) := by decide +kernel
theorem dX0_pairUpOne_53 : decode cX0_pairUpOne 53 = .ok (.istore 10, 2) := by decide +kernel
theorem dX0_pairUpOne_55 : decode cX0_pairUpOne 55 = .ok (.aload_n 2, 1) := by decide +kernel
theorem dX0_pairUpOne_56 : decode cX0_pairUpOne 56 = .ok (.iload 9, 2) := by decide +kernel
theorem dX0_pairUpOne_58 : decode cX0_pairUpOne 58 = .ok (.iaload, 1) := by decide +kernel
theorem dX0_pairUpOne_59 : decode cX0_pairUpOne 59 = .ok (.iconst (-1), 1) := by decide +kernel
theorem dX0_pairUpOne_60 : decode cX0_pairUpOne 60 = .ok (.if_icmp .ne 46, 3) := by decide +kernel
theorem dX0_pairUpOne_63 : decode cX0_pairUpOne 63 = .ok (.aload_n 3, 1) := by decide +kernel
theorem dX0_pairUpOne_64 : decode cX0_pairUpOne 64 = .ok (.iload 10, 2) := by decide +kernel
theorem dX0_pairUpOne_66 : decode cX0_pairUpOne 66 = .ok (.iaload, 1) := by decide +kernel
theorem dX0_pairUpOne_67 : decode cX0_pairUpOne 67 = .ok (.iconst (-1), 1) := by decide +kernel
theorem dX0_pairUpOne_68 : decode cX0_pairUpOne 68 = .ok (.if_icmp .ne 38, 3) := by decide +kernel
theorem dX0_pairUpOne_71 : decode cX0_pairUpOne 71 = .ok (.aload_n 0, 1) := by decide +kernel
theorem dX0_pairUpOne_72 : decode cX0_pairUpOne 72 = .ok (.getfield 11, 3) := by decide +kernel
theorem dX0_pairUpOne_75 : decode cX0_pairUpOne 75 = .ok (.iload 9, 2) := by decide +kernel
theorem dX0_pairUpOne_77 : decode cX0_pairUpOne 77 = .ok (.aaload, 1) := by decide +kernel
theorem dX0_pairUpOne_78 : decode cX0_pairUpOne 78 = .ok (.iload 10, 2) := by decide +kernel
theorem dX0_pairUpOne_80 : decode cX0_pairUpOne 80 = .ok (.iaload, 1) := by decide +kernel
theorem dX0_pairUpOne_81 : decode cX0_pairUpOne 81 = .ok (.iload 4, 2) := by decide +kernel
theorem dX0_pairUpOne_83 : decode cX0_pairUpOne 83 = .ok (.if_icmp .le 23, 3) := by decide +kernel
theorem dX0_pairUpOne_86 : decode cX0_pairUpOne 86 = .ok (.aload_n 0, 1) := by decide +kernel
theorem dX0_pairUpOne_87 : decode cX0_pairUpOne 87 = .ok (.getfield 11, 3) := by decide +kernel
theorem dX0_pairUpOne_90 : decode cX0_pairUpOne 90 = .ok (.iload 9, 2) := by decide +kernel
theorem dX0_pairUpOne_92 : decode cX0_pairUpOne 92 = .ok (.aaload, 1) := by decide +kernel
theorem dX0_pairUpOne_93 : decode cX0_pairUpOne 93 = .ok (.iload 10, 2) := by decide +kernel
theorem dX0_pairUpOne_95 : decode cX0_pairUpOne 95 = .ok (.iaload, 1) := by decide +kernel
theorem dX0_pairUpOne_96 : decode cX0_pairUpOne 96 = .ok (.istore 4, 2) := by decide +kernel
theorem dX0_pairUpOne_98 : decode cX0_pairUpOne 98 = .ok (.iload 9, 2) := by decide +kernel
theorem dX0_pairUpOne_100 : decode cX0_pairUpOne 100 = .ok (.istore 5, 2) := by decide +kernel
theorem dX0_pairUpOne_102 : decode cX0_pairUpOne 102 = .ok (.iload 10, 2) := by decide +kernel
theorem dX0_pairUpOne_104 : decode cX0_pairUpOne 104 = .ok (.istore 6, 2) := by decide +kernel
theorem dX0_pairUpOne_106 : decode cX0_pairUpOne 106 = .ok (.iinc 8 1, 3) := by decide +kernel
theorem dX0_pairUpOne_109 : decode cX0_pairUpOne 109 = .ok (.goto (-87), 3) := by decide +kernel
theorem dX0_pairUpOne_112 : decode cX0_pairUpOne 112 = .ok (.iinc 7 1, 3) := by decide +kernel
theorem dX0_pairUpOne_115 : decode cX0_pairUpOne 115 = .ok (.goto (-103), 3) := by decide +kernel
theorem dX0_pairUpOne_118 : decode cX0_pairUpOne 118 = .ok (.iload 4, 2) := by decide +kernel
theorem dX0_pairUpOne_120 : decode cX0_pairUpOne 120 = .ok (.ifCond .ne 5, 3) := by decide +kernel
theorem dX0_pairUpOne_123 : decode cX0_pairUpOne 123 = .ok (.iconst 0, 1) := by decide +kernel
theorem dX0_pairUpOne_124 : decode cX0_pairUpOne 124 = .ok (.ireturn, 1) := by decide +kernel
theorem dX0_pairUpOne_125 : decode cX0_pairUpOne 125 = .ok (.aload_n 2, 1) := by decide +kernel
theorem dX0_pairUpOne_126 : decode cX0_pairUpOne 126 = .ok (.iload 5, 2) := by decide +kernel
theorem dX0_pairUpOne_128 : decode cX0_pairUpOne 128 = .ok (.iload 6, 2) := by decide +kernel
theorem dX0_pairUpOne_130 : decode cX0_pairUpOne 130 = .ok (.iastore, 1) := by decide +kernel
theorem dX0_pairUpOne_131 : decode cX0_pairUpOne 131 = .ok (.aload_n 3, 1) := by decide +kernel
theorem dX0_pairUpOne_132 : decode cX0_pairUpOne 132 = .ok (.iload 6, 2) := by decide +kernel
theorem dX0_pairUpOne_134 : decode cX0_pairUpOne 134 = .ok (.iload 5, 2) := by decide +kernel
theorem dX0_pairUpOne_136 : decode cX0_pairUpOne 136 = .ok (.iastore, 1) := by decide +kernel
theorem dX0_pairUpOne_137 : decode cX0_pairUpOne 137 = .ok (.iconst 1, 1) := by decide +kernel
theorem dX0_pairUpOne_138 : decode cX0_pairUpOne 138 = .ok (.ireturn, 1) := by decide +kernel
theorem dX1_init_0 : decode cX1_init 0 = .ok (.aload_n 0, 1) := by decide +kernel
theorem dX1_init_1 : decode cX1_init 1 = .ok (.invokespecial 1, 3) := by decide +kernel
theorem dX1_init_4 : decode cX1_init 4 = .ok (.aload_n 0, 1) := by decide +kernel
theorem dX1_init_5 : decode cX1_init 5 = .ok (.iload_n 1, 1) := by decide +kernel
theorem dX1_init_6 : decode cX1_init 6 = .ok (.iconst 1, 1) := by decide +kernel
theorem dX1_init_7 : decode cX1_init 7 = .ok (.invokestatic 7, 3) := by decide +kernel
theorem dX1_init_10 : decode cX1_init 10 = .ok (.anewarray 13, 3) := by decide +kernel
theorem dX1_init_13 : decode cX1_init 13 = .ok (.putfield 15, 3) := by decide +kernel
theorem dX1_init_16 : decode cX1_init 16 = .ok (.iconst 0, 1) := by decide +kernel
theorem dX1_init_17 : decode cX1_init 17 = .ok (.istore_n 2, 1) := by decide +kernel
theorem dX1_init_18 : decode cX1_init 18 = .ok (.iload_n 2, 1) := by decide +kernel
theorem dX1_init_19 : decode cX1_init 19 = .ok (.aload_n 0, 1) := by decide +kernel
theorem dX1_init_20 : decode cX1_init 20 = .ok (.getfield 15, 3) := by decide +kernel
theorem dX1_init_23 : decode cX1_init 23 = .ok (.arraylength, 1) := by decide +kernel
theorem dX1_init_24 : decode cX1_init 24 = .ok (.if_icmp .ge 22, 3) := by decide +kernel
theorem dX1_init_27 : decode cX1_init 27 = .ok (.aload_n 0, 1) := by decide +kernel
theorem dX1_init_28 : decode cX1_init 28 = .ok (.getfield 15, 3) := by decide +kernel
theorem dX1_init_31 : decode cX1_init 31 = .ok (.iload_n 2, 1) := by decide +kernel
theorem dX1_init_32 : decode cX1_init 32 = .ok (.new 13, 3) := by decide +kernel
theorem dX1_init_35 : decode cX1_init 35 = .ok (.dup, 1) := by decide +kernel
theorem dX1_init_36 : decode cX1_init 36 = .ok (.invokespecial 21, 3) := by decide +kernel
theorem dX1_init_39 : decode cX1_init 39 = .ok (.aastore, 1) := by decide +kernel
theorem dX1_init_40 : decode cX1_init 40 = .ok (.iinc 2 1, 3) := by decide +kernel
theorem dX1_init_43 : decode cX1_init 43 = .ok (.goto (-25), 3) := by decide +kernel
theorem dX1_init_46 : decode cX1_init 46 = .ok (.return_, 1) := by decide +kernel
theorem dX1_height_0 : decode cX1_height 0 = .ok (.aload_n 0, 1) := by decide +kernel
theorem dX1_height_1 : decode cX1_height 1 = .ok (.getfield 22, 3) := by decide +kernel
theorem dX1_height_4 : decode cX1_height 4 = .ok (.ireturn, 1) := by decide +kernel
theorem dX1_clear_0 : decode cX1_clear 0 = .ok (.aload_n 0, 1) := by decide +kernel
theorem dX1_clear_1 : decode cX1_clear 1 = .ok (.iconst 0, 1) := by decide +kernel
theorem dX1_clear_2 : decode cX1_clear 2 = .ok (.putfield 22, 3) := by decide +kernel
theorem dX1_clear_5 : decode cX1_clear 5 = .ok (.return_, 1) := by decide +kernel
theorem dX1_push_0 : decode cX1_push 0 = .ok (.aload_n 0, 1) := by decide +kernel
theorem dX1_push_1 : decode cX1_push 1 = .ok (.getfield 22, 3) := by decide +kernel
theorem dX1_push_4 : decode cX1_push 4 = .ok (.aload_n 0, 1) := by decide +kernel
theorem dX1_push_5 : decode cX1_push 5 = .ok (.getfield 15, 3) := by decide +kernel
theorem dX1_push_8 : decode cX1_push 8 = .ok (.arraylength, 1) := by decide +kernel
theorem dX1_push_9 : decode cX1_push 9 = .ok (.if_icmp .lt 7, 3) := by decide +kernel
theorem dX1_push_12 : decode cX1_push 12 = .ok (.aload_n 0, 1) := by decide +kernel
theorem dX1_push_13 : decode cX1_push 13 = .ok (.invokevirtual 26, 3) := by decide +kernel
theorem dX1_push_16 : decode cX1_push 16 = .ok (.aload_n 0, 1) := by decide +kernel
theorem dX1_push_17 : decode cX1_push 17 = .ok (.getfield 15, 3) := by decide +kernel
theorem dX1_push_20 : decode cX1_push 20 = .ok (.aload_n 0, 1) := by decide +kernel
theorem dX1_push_21 : decode cX1_push 21 = .ok (.getfield 22, 3) := by decide +kernel
theorem dX1_push_24 : decode cX1_push 24 = .ok (.aaload, 1) := by decide +kernel
theorem dX1_push_25 : decode cX1_push 25 = .ok (.aload_n 1, 1) := by decide +kernel
theorem dX1_push_26 : decode cX1_push 26 = .ok (.invokevirtual 29, 3) := by decide +kernel
theorem dX1_push_29 : decode cX1_push 29 = .ok (.aload_n 0, 1) := by decide +kernel
theorem dX1_push_30 : decode cX1_push 30 = .ok (.dup, 1) := by decide +kernel
theorem dX1_push_31 : decode cX1_push 31 = .ok (.getfield 22, 3) := by decide +kernel
theorem dX1_push_34 : decode cX1_push 34 = .ok (.iconst 1, 1) := by decide +kernel
theorem dX1_push_35 : decode cX1_push 35 = .ok (.iadd, 1) := by decide +kernel
theorem dX1_push_36 : decode cX1_push 36 = .ok (.putfield 22, 3) := by decide +kernel
theorem dX1_push_39 : decode cX1_push 39 = .ok (.return_, 1) := by decide +kernel
theorem dX1_pop_0 : decode cX1_pop 0 = .ok (.aload_n 0, 1) := by decide +kernel
theorem dX1_pop_1 : decode cX1_pop 1 = .ok (.getfield 22, 3) := by decide +kernel
theorem dX1_pop_4 : decode cX1_pop 4 = .ok (.ifCond .gt 5, 3) := by decide +kernel
theorem dX1_pop_7 : decode cX1_pop 7 = .ok (.iconst 0, 1) := by decide +kernel
theorem dX1_pop_8 : decode cX1_pop 8 = .ok (.ireturn, 1) := by decide +kernel
theorem dX1_pop_9 : decode cX1_pop 9 = .ok (.aload_n 0, 1) := by decide +kernel
theorem dX1_pop_10 : decode cX1_pop 10 = .ok (.dup, 1) := by decide +kernel
theorem dX1_pop_11 : decode cX1_pop 11 = .ok (.getfield 22, 3) := by decide +kernel
theorem dX1_pop_14 : decode cX1_pop 14 = .ok (.iconst 1, 1) := by decide +kernel
theorem dX1_pop_15 : decode cX1_pop 15 = .ok (.isub, 1) := by decide +kernel
theorem dX1_pop_16 : decode cX1_pop 16 = .ok (.putfield 22, 3) := by decide +kernel
theorem dX1_pop_19 : decode cX1_pop 19 = .ok (.aload_n 1, 1) := by decide +kernel
theorem dX1_pop_20 : decode cX1_pop 20 = .ok (.aload_n 0, 1) := by decide +kernel
theorem dX1_pop_21 : decode cX1_pop 21 = .ok (.getfield 15, 3) := by decide +kernel
theorem dX1_pop_24 : decode cX1_pop 24 = .ok (.aload_n 0, 1) := by decide +kernel
theorem dX1_pop_25 : decode cX1_pop 25 = .ok (.getfield 22, 3) := by decide +kernel
theorem dX1_pop_28 : decode cX1_pop 28 = .ok (.aaload, 1) := by decide +kernel
theorem dX1_pop_29 : decode cX1_pop 29 = .ok (.invokevirtual 29, 3) := by decide +kernel
theorem dX1_pop_32 : decode cX1_pop 32 = .ok (.iconst 1, 1) := by decide +kernel
theorem dX1_pop_33 : decode cX1_pop 33 = .ok (.ireturn, 1) := by decide +kernel
theorem dX1_dropOldest_0 : decode cX1_dropOldest 0 = .ok (.aload_n 0, 1) := by decide +kernel
theorem dX1_dropOldest_1 : decode cX1_dropOldest 1 = .ok (.getfield 15, 3) := by decide +kernel
theorem dX1_dropOldest_4 : decode cX1_dropOldest 4 = .ok (.iconst 0, 1) := by decide +kernel
theorem dX1_dropOldest_5 : decode cX1_dropOldest 5 = .ok (.aaload, 1) := by decide +kernel
theorem dX1_dropOldest_6 : decode cX1_dropOldest 6 = .ok (.astore_n 1, 1) := by decide +kernel
theorem dX1_dropOldest_7 : decode cX1_dropOldest 7 = .ok (.iconst 1, 1) := by decide +kernel
theorem dX1_dropOldest_8 : decode cX1_dropOldest 8 = .ok (.istore_n 2, 1) := by decide +kernel
theorem dX1_dropOldest_9 : decode cX1_dropOldest 9 = .ok (.iload_n 2, 1) := by decide +kernel
theorem dX1_dropOldest_10 : decode cX1_dropOldest 10 = .ok (.aload_n 0, 1) := by decide +kernel
theorem dX1_dropOldest_11 : decode cX1_dropOldest 11 = .ok (.getfield 15, 3) := by decide +kernel
theorem dX1_dropOldest_14 : decode cX1_dropOldest 14 = .ok (.arraylength, 1) := by decide +kernel
theorem dX1_dropOldest_15 : decode cX1_dropOldest 15 = .ok (.if_icmp .ge 23, 3) := by decide +kernel
theorem dX1_dropOldest_18 : decode cX1_dropOldest 18 = .ok (.aload_n 0, 1) := by decide +kernel
theorem dX1_dropOldest_19 : decode cX1_dropOldest 19 = .ok (.getfield 15, 3) := by decide +kernel
theorem dX1_dropOldest_22 : decode cX1_dropOldest 22 = .ok (.iload_n 2, 1) := by decide +kernel
theorem dX1_dropOldest_23 : decode cX1_dropOldest 23 = .ok (.iconst 1, 1) := by decide +kernel
theorem dX1_dropOldest_24 : decode cX1_dropOldest 24 = .ok (.isub, 1) := by decide +kernel
theorem dX1_dropOldest_25 : decode cX1_dropOldest 25 = .ok (.aload_n 0, 1) := by decide +kernel
theorem dX1_dropOldest_26 : decode cX1_dropOldest 26 = .ok (.getfield 15, 3) := by decide +kernel
theorem dX1_dropOldest_29 : decode cX1_dropOldest 29 = .ok (.iload_n 2, 1) := by decide +kernel
theorem dX1_dropOldest_30 : decode cX1_dropOldest 30 = .ok (.aaload, 1) := by decide +kernel
theorem dX1_dropOldest_31 : decode cX1_dropOldest 31 = .ok (.aastore, 1) := by decide +kernel
theorem dX1_dropOldest_32 : decode cX1_dropOldest 32 = .ok (.iinc 2 1, 3) := by decide +kernel
theorem dX1_dropOldest_35 : decode cX1_dropOldest 35 = .ok (.goto (-26), 3) := by decide +kernel
theorem dX1_dropOldest_38 : decode cX1_dropOldest 38 = .ok (.aload_n 0, 1) := by decide +kernel
theorem dX1_dropOldest_39 : decode cX1_dropOldest 39 = .ok (.getfield 15, 3) := by decide +kernel
theorem dX1_dropOldest_42 : decode cX1_dropOldest 42 = .ok (.aload_n 0, 1) := by decide +kernel
theorem dX1_dropOldest_43 : decode cX1_dropOldest 43 = .ok (.getfield 15, 3) := by decide +kernel
theorem dX1_dropOldest_46 : decode cX1_dropOldest 46 = .ok (.arraylength, 1) := by decide +kernel
theorem dX1_dropOldest_47 : decode cX1_dropOldest 47 = .ok (.iconst 1, 1) := by decide +kernel
theorem dX1_dropOldest_48 : decode cX1_dropOldest 48 = .ok (.isub, 1) := by decide +kernel
theorem dX1_dropOldest_49 : decode cX1_dropOldest 49 = .ok (.aload_n 1, 1) := by decide +kernel
theorem dX1_dropOldest_50 : decode cX1_dropOldest 50 = .ok (.aastore, 1) := by decide +kernel
theorem dX1_dropOldest_51 : decode cX1_dropOldest 51 = .ok (.aload_n 0, 1) := by decide +kernel
theorem dX1_dropOldest_52 : decode cX1_dropOldest 52 = .ok (.aload_n 0, 1) := by decide +kernel
theorem dX1_dropOldest_53 : decode cX1_dropOldest 53 = .ok (.getfield 15, 3) := by decide +kernel
theorem dX1_dropOldest_56 : decode cX1_dropOldest 56 = .ok (.arraylength, 1) := by decide +kernel
theorem dX1_dropOldest_57 : decode cX1_dropOldest 57 = .ok (.iconst 1, 1) := by decide +kernel
theorem dX1_dropOldest_58 : decode cX1_dropOldest 58 = .ok (.isub, 1) := by decide +kernel
theorem dX1_dropOldest_59 : decode cX1_dropOldest 59 = .ok (.putfield 22, 3) := by decide +kernel
theorem dX1_dropOldest_62 : decode cX1_dropOldest 62 = .ok (.return_, 1) := by decide +kernel
theorem dX2_init_0 : decode cX2_init 0 = .ok (.aload_n 0, 1) := by decide +kernel
theorem dX2_init_1 : decode cX2_init 1 = .ok (.invokespecial 3, 3) := by decide +kernel
theorem dX2_init_4 : decode cX2_init 4 = .ok (.aload_n 0, 1) := by decide +kernel
theorem dX2_init_5 : decode cX2_init 5 = .ok (.iconst 3, 1) := by decide +kernel
theorem dX2_init_6 : decode cX2_init 6 = .ok (.newarray .int, 2) := by decide +kernel
theorem dX2_init_8 : decode cX2_init 8 = .ok (.putfield 9, 3) := by decide +kernel
theorem dX2_init_11 : decode cX2_init 11 = .ok (.return_, 1) := by decide +kernel
theorem dX2_read_0 : decode cX2_read 0 = .ok (.aload_n 2, 1) := by decide +kernel
theorem dX2_read_1 : decode cX2_read 1 = .ok (.invokevirtual 15, 3) := by decide +kernel
theorem dX2_read_4 : decode cX2_read 4 = .ok (.aload_n 0, 1) := by decide +kernel
theorem dX2_read_5 : decode cX2_read 5 = .ok (.iconst 0, 1) := by decide +kernel
theorem dX2_read_6 : decode cX2_read 6 = .ok (.putfield 20, 3) := by decide +kernel
theorem dX2_read_9 : decode cX2_read 9 = .ok (.iconst 0, 1) := by decide +kernel
theorem dX2_read_10 : decode cX2_read 10 = .ok (.istore_n 3, 1) := by decide +kernel
theorem dX2_read_11 : decode cX2_read 11 = .ok (.iload_n 3, 1) := by decide +kernel
theorem dX2_read_12 : decode cX2_read 12 = .ok (.sipush 200, 3) := by decide +kernel
theorem dX2_read_15 : decode cX2_read 15 = .ok (.if_icmp .ge 38, 3) := by decide +kernel
theorem dX2_read_18 : decode cX2_read 18 = .ok (.aload_n 0, 1) := by decide +kernel
theorem dX2_read_19 : decode cX2_read 19 = .ok (.getfield 20, 3) := by decide +kernel
theorem dX2_read_22 : decode cX2_read 22 = .ok (.aload_n 1, 1) := by decide +kernel
theorem dX2_read_23 : decode cX2_read 23 = .ok (.invokevirtual 24, 3) := by decide +kernel
theorem dX2_read_26 : decode cX2_read 26 = .ok (.if_icmp .ge 27, 3) := by decide +kernel
theorem dX2_read_29 : decode cX2_read 29 = .ok (.aload_n 0, 1) := by decide +kernel
theorem dX2_read_30 : decode cX2_read 30 = .ok (.getfield 20, 3) := by decide +kernel
theorem dX2_read_33 : decode cX2_read 33 = .ok (.istore 4, 2) := by decide +kernel
theorem dX2_read_35 : decode cX2_read 35 = .ok (.aload_n 0, 1) := by decide +kernel
theorem dX2_read_36 : decode cX2_read 36 = .ok (.aload_n 1, 1) := by decide +kernel
theorem dX2_read_37 : decode cX2_read 37 = .ok (.aload_n 2, 1) := by decide +kernel
theorem dX2_read_38 : decode cX2_read 38 = .ok (.invokevirtual 30, 3) := by decide +kernel
theorem dX2_read_41 : decode cX2_read 41 = .ok (.ifCond .ne 6, 3) := by decide +kernel
theorem dX2_read_44 : decode cX2_read 44 = .ok (.iload 4, 2) := by decide +kernel
theorem dX2_read_46 : decode cX2_read 46 = .ok (.ireturn, 1) := by decide +kernel
theorem dX2_read_47 : decode cX2_read 47 = .ok (.iinc 3 1, 3) := by decide +kernel
theorem dX2_read_50 : decode cX2_read 50 = .ok (.goto (-39), 3) := by decide +kernel
theorem dX2_read_53 : decode cX2_read 53 = .ok (.bipush (-4), 2) := by decide +kernel
theorem dX2_read_55 : decode cX2_read 55 = .ok (.ireturn, 1) := by decide +kernel
theorem dX2_readItem_0 : decode cX2_readItem 0 = .ok (.aload_n 1, 1) := by decide +kernel
theorem dX2_readItem_1 : decode cX2_readItem 1 = .ok (.aload_n 0, 1) := by decide +kernel
theorem dX2_readItem_2 : decode cX2_readItem 2 = .ok (.getfield 20, 3) := by decide +kernel
theorem dX2_readItem_5 : decode cX2_readItem 5 = .ok (.invokevirtual 34, 3) := by decide +kernel
theorem dX2_readItem_8 : decode cX2_readItem 8 = .ok (.istore_n 3, 1) := by decide +kernel
theorem dX2_readItem_9 : decode cX2_readItem 9 = .ok (.iload_n 3, 1) := by decide +kernel
theorem dX2_readItem_10 : decode cX2_readItem 10 = .ok (.invokestatic 38, 3) := by decide +kernel
theorem dX2_readItem_13 : decode cX2_readItem 13 = .ok (.istore 4, 2) := by decide +kernel
theorem dX2_readItem_15 : decode cX2_readItem 15 = .ok (.aload_n 0, 1) := by decide +kernel
theorem dX2_readItem_16 : decode cX2_readItem 16 = .ok (.dup, 1) := by decide +kernel
theorem dX2_readItem_17 : decode cX2_readItem 17 = .ok (.getfield 20, 3) := by decide +kernel
theorem dX2_readItem_20 : decode cX2_readItem 20 = .ok (.iconst 1, 1) := by decide +kernel
theorem dX2_readItem_21 : decode cX2_readItem 21 = .ok (.iadd, 1) := by decide +kernel
theorem dX2_readItem_22 : decode cX2_readItem 22 = .ok (.putfield 20, 3) := by decide +kernel
theorem dX2_readItem_25 : decode cX2_readItem 25 = .ok (.iconst 0, 1) := by decide +kernel
theorem dX2_readItem_26 : decode cX2_readItem 26 = .ok (.istore 5, 2) := by decide +kernel
theorem dX2_readItem_28 : decode cX2_readItem 28 = .ok (.iload 5, 2) := by decide +kernel
theorem dX2_readItem_30 : decode cX2_readItem 30 = .ok (.iload 4, 2) := by decide +kernel
theorem dX2_readItem_32 : decode cX2_readItem 32 = .ok (.if_icmp .ge 73, 3) := by decide +kernel
theorem dX2_readItem_35 : decode cX2_readItem 35 = .ok (.aload_n 0, 1) := by decide +kernel
theorem dX2_readItem_36 : decode cX2_readItem 36 = .ok (.aload_n 1, 1) := by decide +kernel
theorem dX2_readItem_37 : decode cX2_readItem 37 = .ok (.invokevirtual 41, 3) := by decide +kernel
theorem dX2_readItem_40 : decode cX2_readItem 40 = .ok (.istore 6, 2) := by decide +kernel
theorem dX2_readItem_42 : decode cX2_readItem 42 = .ok (.iload 5, 2) := by decide +kernel
theorem dX2_readItem_44 : decode cX2_readItem 44 = .ok (.iload 4, 2) := by decide +kernel
theorem dX2_readItem_46 : decode cX2_readItem 46 = .ok (.iconst 1, 1) := by decide +kernel
theorem dX2_readItem_47 : decode cX2_readItem 47 = .ok (.isub, 1) := by decide +kernel
theorem dX2_readItem_48 : decode cX2_readItem 48 = .ok (.if_icmp .ne 8, 3) := by decide +kernel
theorem dX2_readItem_51 : decode cX2_readItem 51 = .ok (.bipush 59, 2) := by decide +kernel
theorem dX2_readItem_53 : decode cX2_readItem 53 = .ok (.goto 5, 3) := by decide +kernel
theorem dX2_readItem_56 : decode cX2_readItem 56 = .ok (.bipush 44, 2) := by decide +kernel
theorem dX2_readItem_58 : decode cX2_readItem 58 = .ok (.istore 7, 2) := by decide +kernel
theorem dX2_readItem_60 : decode cX2_readItem 60 = .ok (.iload 6, 2) := by decide +kernel
theorem dX2_readItem_62 : decode cX2_readItem 62 = .ok (.ifCond .lt 16, 3) := by decide +kernel
theorem dX2_readItem_65 : decode cX2_readItem 65 = .ok (.aload_n 1, 1) := by decide +kernel
theorem dX2_readItem_66 : decode cX2_readItem 66 = .ok (.aload_n 0, 1) := by decide +kernel
theorem dX2_readItem_67 : decode cX2_readItem 67 = .ok (.getfield 20, 3) := by decide +kernel
theorem dX2_readItem_70 : decode cX2_readItem 70 = .ok (.invokevirtual 34, 3) := by decide +kernel
theorem dX2_readItem_73 : decode cX2_readItem 73 = .ok (.iload 7, 2) := by decide +kernel
theorem dX2_readItem_75 : decode cX2_readItem 75 = .ok (.if_icmp .eq 5, 3) := by decide +kernel
theorem dX2_readItem_78 : decode cX2_readItem 78 = .ok (.iconst 0, 1) := by decide +kernel
theorem dX2_readItem_79 : decode cX2_readItem 79 = .ok (.ireturn, 1) := by decide +kernel
theorem dX2_readItem_80 : decode cX2_readItem 80 = .ok (.aload_n 0, 1) := by decide +kernel
theorem dX2_readItem_81 : decode cX2_readItem 81 = .ok (.getfield 9, 3) := by decide +kernel
theorem dX2_readItem_84 : decode cX2_readItem 84 = .ok (.iload 5, 2) := by decide +kernel
theorem dX2_readItem_86 : decode cX2_readItem 86 = .ok (.iload 6, 2) := by decide +kernel
theorem dX2_readItem_88 : decode cX2_readItem 88 = .ok (.iastore, 1) := by decide +kernel
theorem dX2_readItem_89 : decode cX2_readItem 89 = .ok (.aload_n 0, 1) := by decide +kernel
theorem dX2_readItem_90 : decode cX2_readItem 90 = .ok (.dup, 1) := by decide +kernel
theorem dX2_readItem_91 : decode cX2_readItem 91 = .ok (.getfield 20, 3) := by decide +kernel
theorem dX2_readItem_94 : decode cX2_readItem 94 = .ok (.iconst 1, 1) := by decide +kernel
theorem dX2_readItem_95 : decode cX2_readItem 95 = .ok (.iadd, 1) := by decide +kernel
theorem dX2_readItem_96 : decode cX2_readItem 96 = .ok (.putfield 20, 3) := by decide +kernel
theorem dX2_readItem_99 : decode cX2_readItem 99 = .ok (.iinc 5 1, 3) := by decide +kernel
theorem dX2_readItem_102 : decode cX2_readItem 102 = .ok (.goto (-74), 3) := by decide +kernel
theorem dX2_readItem_105 : decode cX2_readItem 105 = .ok (.aload_n 0, 1) := by decide +kernel
theorem dX2_readItem_106 : decode cX2_readItem 106 = .ok (.iload_n 3, 1) := by decide +kernel
theorem dX2_readItem_107 : decode cX2_readItem 107 = .ok (.aload_n 2, 1) := by decide +kernel
theorem dX2_readItem_108 : decode cX2_readItem 108 = .ok (.invokevirtual 45, 3) := by decide +kernel
theorem dX2_readItem_111 : decode cX2_readItem 111 = .ok (.ireturn, 1) := by decide +kernel
theorem dX2_numbersOf_0 : decode cX2_numbersOf 0 = .ok (.iload_n 0, 1) := by decide +kernel
theorem dX2_numbersOf_1 : decode cX2_numbersOf 1 = .ok (.tableswitch 99 97 116 #[97, 97, 99, 99, 99, 99, 99, 99, 99, 99, 99, 99, 99, 95, 99, 99, 99, 95, 97, 97], 95) := by decide +kernel
theorem dX2_numbersOf_96 : decode cX2_numbersOf 96 = .ok (.iconst 1, 1) := by decide +kernel
theorem dX2_numbersOf_97 : decode cX2_numbersOf 97 = .ok (.ireturn, 1) := by decide +kernel
theorem dX2_numbersOf_98 : decode cX2_numbersOf 98 = .ok (.iconst 3, 1) := by decide +kernel
theorem dX2_numbersOf_99 : decode cX2_numbersOf 99 = .ok (.ireturn, 1) := by decide +kernel
theorem dX2_numbersOf_100 : decode cX2_numbersOf 100 = .ok (.iconst 0, 1) := by decide +kernel
theorem dX2_numbersOf_101 : decode cX2_numbersOf 101 = .ok (.ireturn, 1) := by decide +kernel
theorem dX2_readNumber_0 : decode cX2_readNumber 0 = .ok (.iconst (-1), 1) := by decide +kernel
theorem dX2_readNumber_1 : decode cX2_readNumber 1 = .ok (.istore_n 2, 1) := by decide +kernel
theorem dX2_readNumber_2 : decode cX2_readNumber 2 = .ok (.iconst 0, 1) := by decide +kernel
theorem dX2_readNumber_3 : decode cX2_readNumber 3 = .ok (.istore_n 3, 1) := by decide +kernel
theorem dX2_readNumber_4 : decode cX2_readNumber 4 = .ok (.iload_n 3, 1) := by decide +kernel
theorem dX2_readNumber_5 : decode cX2_readNumber 5 = .ok (.iconst 2, 1) := by decide +kernel
theorem dX2_readNumber_6 : decode cX2_readNumber 6 = .ok (.if_icmp .ge 58, 3) := by decide +kernel
theorem dX2_readNumber_9 : decode cX2_readNumber 9 = .ok (.aload_n 1, 1) := by decide +kernel
theorem dX2_readNumber_10 : decode cX2_readNumber 10 = .ok (.aload_n 0, 1) := by decide +kernel
theorem dX2_readNumber_11 : decode cX2_readNumber 11 = .ok (.getfield 20, 3) := by decide +kernel
theorem dX2_readNumber_14 : decode cX2_readNumber 14 = .ok (.invokevirtual 34, 3) := by decide +kernel
theorem dX2_readNumber_17 : decode cX2_readNumber 17 = .ok (.istore 4, 2) := by decide +kernel
theorem dX2_readNumber_19 : decode cX2_readNumber 19 = .ok (.iload 4, 2) := by decide +kernel
theorem dX2_readNumber_21 : decode cX2_readNumber 21 = .ok (.bipush 48, 2) := by decide +kernel
theorem dX2_readNumber_23 : decode cX2_readNumber 23 = .ok (.bipush 57, 2) := by decide +kernel
theorem dX2_readNumber_25 : decode cX2_readNumber 25 = .ok (.invokestatic 49, 3) := by decide +kernel
theorem dX2_readNumber_28 : decode cX2_readNumber 28 = .ok (.ifCond .ne 5, 3) := by decide +kernel
theorem dX2_readNumber_31 : decode cX2_readNumber 31 = .ok (.iload_n 2, 1) := by decide +kernel
theorem dX2_readNumber_32 : decode cX2_readNumber 32 = .ok (.ireturn, 1) := by decide +kernel
theorem dX2_readNumber_33 : decode cX2_readNumber 33 = .ok (.iload_n 2, 1) := by decide +kernel
theorem dX2_readNumber_34 : decode cX2_readNumber 34 = .ok (.iconst 0, 1) := by decide +kernel
theorem dX2_readNumber_35 : decode cX2_readNumber 35 = .ok (.invokestatic 53, 3) := by decide +kernel
theorem dX2_readNumber_38 : decode cX2_readNumber 38 = .ok (.bipush 10, 2) := by decide +kernel
theorem dX2_readNumber_40 : decode cX2_readNumber 40 = .ok (.imul, 1) := by decide +kernel
theorem dX2_readNumber_41 : decode cX2_readNumber 41 = .ok (.iload 4, 2) := by decide +kernel
theorem dX2_readNumber_43 : decode cX2_readNumber 43 = .ok (.iadd, 1) := by decide +kernel
theorem dX2_readNumber_44 : decode cX2_readNumber 44 = .ok (.bipush 48, 2) := by decide +kernel
theorem dX2_readNumber_46 : decode cX2_readNumber 46 = .ok (.isub, 1) := by decide +kernel
theorem dX2_readNumber_47 : decode cX2_readNumber 47 = .ok (.istore_n 2, 1) := by decide +kernel
theorem dX2_readNumber_48 : decode cX2_readNumber 48 = .ok (.aload_n 0, 1) := by decide +kernel
theorem dX2_readNumber_49 : decode cX2_readNumber 49 = .ok (.dup, 1) := by decide +kernel
theorem dX2_readNumber_50 : decode cX2_readNumber 50 = .ok (.getfield 20, 3) := by decide +kernel
theorem dX2_readNumber_53 : decode cX2_readNumber 53 = .ok (.iconst 1, 1) := by decide +kernel
theorem dX2_readNumber_54 : decode cX2_readNumber 54 = .ok (.iadd, 1) := by decide +kernel
theorem dX2_readNumber_55 : decode cX2_readNumber 55 = .ok (.putfield 20, 3) := by decide +kernel
theorem dX2_readNumber_58 : decode cX2_readNumber 58 = .ok (.iinc 3 1, 3) := by decide +kernel
theorem dX2_readNumber_61 : decode cX2_readNumber 61 = .ok (.goto (-57), 3) := by decide +kernel
theorem dX2_readNumber_64 : decode cX2_readNumber 64 = .ok (.iload_n 2, 1) := by decide +kernel
theorem dX2_readNumber_65 : decode cX2_readNumber 65 = .ok (.ireturn, 1) := by decide +kernel
theorem dX2_take_0 : decode cX2_take 0 = .ok (.iload_n 1, 1) := by decide +kernel
theorem dX2_take_1 : decode cX2_take 1 = .ok (.tableswitch 225 97 116 #[117, 144, 225, 225, 225, 225, 225, 225, 225, 225, 225, 225, 225, 106, 225, 225, 225, 95, 171, 198], 95) := by decide +kernel
theorem dX2_take_96 : decode cX2_take 96 = .ok (.aload_n 2, 1) := by decide +kernel
theorem dX2_take_97 : decode cX2_take 97 = .ok (.aload_n 0, 1) := by decide +kernel
theorem dX2_take_98 : decode cX2_take 98 = .ok (.getfield 9, 3) := by decide +kernel
theorem dX2_take_101 : decode cX2_take 101 = .ok (.iconst 0, 1) := by decide +kernel
theorem dX2_take_102 : decode cX2_take 102 = .ok (.iaload, 1) := by decide +kernel
theorem dX2_take_103 : decode cX2_take 103 = .ok (.invokevirtual 59, 3) := by decide +kernel
theorem dX2_take_106 : decode cX2_take 106 = .ok (.ireturn, 1) := by decide +kernel
theorem dX2_take_107 : decode cX2_take 107 = .ok (.aload_n 2, 1) := by decide +kernel
theorem dX2_take_108 : decode cX2_take 108 = .ok (.aload_n 0, 1) := by decide +kernel
theorem dX2_take_109 : decode cX2_take 109 = .ok (.getfield 9, 3) := by decide +kernel
theorem dX2_take_112 : decode cX2_take 112 = .ok (.iconst 0, 1) := by decide +kernel
theorem dX2_take_113 : decode cX2_take 113 = .ok (.iaload, 1) := by decide +kernel
theorem dX2_take_114 : decode cX2_take 114 = .ok (.invokevirtual 63, 3) := by decide +kernel
theorem dX2_take_117 : decode cX2_take 117 = .ok (.ireturn, 1) := by decide +kernel
theorem dX2_take_118 : decode cX2_take 118 = .ok (.aload_n 2, 1) := by decide +kernel
theorem dX2_take_119 : decode cX2_take 119 = .ok (.iconst 0, 1) := by decide +kernel
theorem dX2_take_120 : decode cX2_take 120 = .ok (.invokevirtual 66, 3) := by decide +kernel
theorem dX2_take_123 : decode cX2_take 123 = .ok (.aload_n 0, 1) := by decide +kernel
theorem dX2_take_124 : decode cX2_take 124 = .ok (.getfield 9, 3) := by decide +kernel
theorem dX2_take_127 : decode cX2_take 127 = .ok (.iconst 0, 1) := by decide +kernel
theorem dX2_take_128 : decode cX2_take 128 = .ok (.iaload, 1) := by decide +kernel
theorem dX2_take_129 : decode cX2_take 129 = .ok (.aload_n 0, 1) := by decide +kernel
theorem dX2_take_130 : decode cX2_take 130 = .ok (.getfield 9, 3) := by decide +kernel
theorem dX2_take_133 : decode cX2_take 133 = .ok (.iconst 1, 1) := by decide +kernel
theorem dX2_take_134 : decode cX2_take 134 = .ok (.iaload, 1) := by decide +kernel
theorem dX2_take_135 : decode cX2_take 135 = .ok (.aload_n 0, 1) := by decide +kernel
theorem dX2_take_136 : decode cX2_take 136 = .ok (.getfield 9, 3) := by decide +kernel
theorem dX2_take_139 : decode cX2_take 139 = .ok (.iconst 2, 1) := by decide +kernel
theorem dX2_take_140 : decode cX2_take 140 = .ok (.iaload, 1) := by decide +kernel
theorem dX2_take_141 : decode cX2_take 141 = .ok (.invokevirtual 70, 3) := by decide +kernel
theorem dX2_take_144 : decode cX2_take 144 = .ok (.ireturn, 1) := by decide +kernel
theorem dX2_take_145 : decode cX2_take 145 = .ok (.aload_n 2, 1) := by decide +kernel
theorem dX2_take_146 : decode cX2_take 146 = .ok (.iconst 1, 1) := by decide +kernel
theorem dX2_take_147 : decode cX2_take 147 = .ok (.invokevirtual 66, 3) := by decide +kernel
theorem dX2_take_150 : decode cX2_take 150 = .ok (.aload_n 0, 1) := by decide +kernel
theorem dX2_take_151 : decode cX2_take 151 = .ok (.getfield 9, 3) := by decide +kernel
theorem dX2_take_154 : decode cX2_take 154 = .ok (.iconst 0, 1) := by decide +kernel
theorem dX2_take_155 : decode cX2_take 155 = .ok (.iaload, 1) := by decide +kernel
theorem dX2_take_156 : decode cX2_take 156 = .ok (.aload_n 0, 1) := by decide +kernel
theorem dX2_take_157 : decode cX2_take 157 = .ok (.getfield 9, 3) := by decide +kernel
theorem dX2_take_160 : decode cX2_take 160 = .ok (.iconst 1, 1) := by decide +kernel
theorem dX2_take_161 : decode cX2_take 161 = .ok (.iaload, 1) := by decide +kernel
theorem dX2_take_162 : decode cX2_take 162 = .ok (.aload_n 0, 1) := by decide +kernel
theorem dX2_take_163 : decode cX2_take 163 = .ok (.getfield 9, 3) := by decide +kernel
theorem dX2_take_166 : decode cX2_take 166 = .ok (.iconst 2, 1) := by decide +kernel
theorem dX2_take_167 : decode cX2_take 167 = .ok (.iaload, 1) := by decide +kernel
theorem dX2_take_168 : decode cX2_take 168 = .ok (.invokevirtual 70, 3) := by decide +kernel
theorem dX2_take_171 : decode cX2_take 171 = .ok (.ireturn, 1) := by decide +kernel
theorem dX2_take_172 : decode cX2_take 172 = .ok (.aload_n 2, 1) := by decide +kernel
theorem dX2_take_173 : decode cX2_take 173 = .ok (.iconst 0, 1) := by decide +kernel
theorem dX2_take_174 : decode cX2_take 174 = .ok (.invokevirtual 66, 3) := by decide +kernel
theorem dX2_take_177 : decode cX2_take 177 = .ok (.aload_n 0, 1) := by decide +kernel
theorem dX2_take_178 : decode cX2_take 178 = .ok (.getfield 9, 3) := by decide +kernel
theorem dX2_take_181 : decode cX2_take 181 = .ok (.iconst 0, 1) := by decide +kernel
theorem dX2_take_182 : decode cX2_take 182 = .ok (.iaload, 1) := by decide +kernel
theorem dX2_take_183 : decode cX2_take 183 = .ok (.aload_n 0, 1) := by decide +kernel
theorem dX2_take_184 : decode cX2_take 184 = .ok (.getfield 9, 3) := by decide +kernel
theorem dX2_take_187 : decode cX2_take 187 = .ok (.iconst 1, 1) := by decide +kernel
theorem dX2_take_188 : decode cX2_take 188 = .ok (.iaload, 1) := by decide +kernel
theorem dX2_take_189 : decode cX2_take 189 = .ok (.aload_n 0, 1) := by decide +kernel
theorem dX2_take_190 : decode cX2_take 190 = .ok (.getfield 9, 3) := by decide +kernel
theorem dX2_take_193 : decode cX2_take 193 = .ok (.iconst 2, 1) := by decide +kernel
theorem dX2_take_194 : decode cX2_take 194 = .ok (.iaload, 1) := by decide +kernel
theorem dX2_take_195 : decode cX2_take 195 = .ok (.invokevirtual 75, 3) := by decide +kernel
theorem dX2_take_198 : decode cX2_take 198 = .ok (.ireturn, 1) := by decide +kernel
theorem dX2_take_199 : decode cX2_take 199 = .ok (.aload_n 2, 1) := by decide +kernel
theorem dX2_take_200 : decode cX2_take 200 = .ok (.iconst 1, 1) := by decide +kernel
theorem dX2_take_201 : decode cX2_take 201 = .ok (.invokevirtual 66, 3) := by decide +kernel
theorem dX2_take_204 : decode cX2_take 204 = .ok (.aload_n 0, 1) := by decide +kernel
theorem dX2_take_205 : decode cX2_take 205 = .ok (.getfield 9, 3) := by decide +kernel
theorem dX2_take_208 : decode cX2_take 208 = .ok (.iconst 0, 1) := by decide +kernel
theorem dX2_take_209 : decode cX2_take 209 = .ok (.iaload, 1) := by decide +kernel
theorem dX2_take_210 : decode cX2_take 210 = .ok (.aload_n 0, 1) := by decide +kernel
theorem dX2_take_211 : decode cX2_take 211 = .ok (.getfield 9, 3) := by decide +kernel
theorem dX2_take_214 : decode cX2_take 214 = .ok (.iconst 1, 1) := by decide +kernel
theorem dX2_take_215 : decode cX2_take 215 = .ok (.iaload, 1) := by decide +kernel
theorem dX2_take_216 : decode cX2_take 216 = .ok (.aload_n 0, 1) := by decide +kernel
theorem dX2_take_217 : decode cX2_take 217 = .ok (.getfield 9, 3) := by decide +kernel
theorem dX2_take_220 : decode cX2_take 220 = .ok (.iconst 2, 1) := by decide +kernel
theorem dX2_take_221 : decode cX2_take 221 = .ok (.iaload, 1) := by decide +kernel
theorem dX2_take_222 : decode cX2_take 222 = .ok (.invokevirtual 75, 3) := by decide +kernel
theorem dX2_take_225 : decode cX2_take 225 = .ok (.ireturn, 1) := by decide +kernel
theorem dX2_take_226 : decode cX2_take 226 = .ok (.iconst 0, 1) := by decide +kernel
theorem dX2_take_227 : decode cX2_take 227 = .ok (.ireturn, 1) := by decide +kernel
theorem dX3_init_0 : decode cX3_init 0 = .ok (.aload_n 0, 1) := by decide +kernel
theorem dX3_init_1 : decode cX3_init 1 = .ok (.invokespecial 3, 3) := by decide +kernel
theorem dX3_init_4 : decode cX3_init 4 = .ok (.aload_n 0, 1) := by decide +kernel
theorem dX3_init_5 : decode cX3_init 5 = .ok (.bipush 12, 2) := by decide +kernel
theorem dX3_init_7 : decode cX3_init 7 = .ok (.newarray .int, 2) := by decide +kernel
theorem dX3_init_9 : decode cX3_init 9 = .ok (.putfield 9, 3) := by decide +kernel
theorem dX3_init_12 : decode cX3_init 12 = .ok (.aload_n 0, 1) := by decide +kernel
theorem dX3_init_13 : decode cX3_init 13 = .ok (.invokevirtual 15, 3) := by decide +kernel
theorem dX3_init_16 : decode cX3_init 16 = .ok (.return_, 1) := by decide +kernel
theorem dX3_clear_0 : decode cX3_clear 0 = .ok (.iconst 0, 1) := by decide +kernel
theorem dX3_clear_1 : decode cX3_clear 1 = .ok (.istore_n 1, 1) := by decide +kernel
theorem dX3_clear_2 : decode cX3_clear 2 = .ok (.iload_n 1, 1) := by decide +kernel
theorem dX3_clear_3 : decode cX3_clear 3 = .ok (.aload_n 0, 1) := by decide +kernel
theorem dX3_clear_4 : decode cX3_clear 4 = .ok (.getfield 9, 3) := by decide +kernel
theorem dX3_clear_7 : decode cX3_clear 7 = .ok (.arraylength, 1) := by decide +kernel
theorem dX3_clear_8 : decode cX3_clear 8 = .ok (.if_icmp .ge 17, 3) := by decide +kernel
theorem dX3_clear_11 : decode cX3_clear 11 = .ok (.aload_n 0, 1) := by decide +kernel
theorem dX3_clear_12 : decode cX3_clear 12 = .ok (.getfield 9, 3) := by decide +kernel
theorem dX3_clear_15 : decode cX3_clear 15 = .ok (.iload_n 1, 1) := by decide +kernel
theorem dX3_clear_16 : decode cX3_clear 16 = .ok (.bipush (-4), 2) := by decide +kernel
theorem dX3_clear_18 : decode cX3_clear 18 = .ok (.iastore, 1) := by decide +kernel
theorem dX3_clear_19 : decode cX3_clear 19 = .ok (.iinc 1 1, 3) := by decide +kernel
theorem dX3_clear_22 : decode cX3_clear 22 = .ok (.goto (-20), 3) := by decide +kernel
theorem dX3_clear_25 : decode cX3_clear 25 = .ok (.return_, 1) := by decide +kernel
theorem dX3_hasPlace_0 : decode cX3_hasPlace 0 = .ok (.iload_n 1, 1) := by decide +kernel
theorem dX3_hasPlace_1 : decode cX3_hasPlace 1 = .ok (.iconst 0, 1) := by decide +kernel
theorem dX3_hasPlace_2 : decode cX3_hasPlace 2 = .ok (.iconst 2, 1) := by decide +kernel
theorem dX3_hasPlace_3 : decode cX3_hasPlace 3 = .ok (.invokestatic 18, 3) := by decide +kernel
theorem dX3_hasPlace_6 : decode cX3_hasPlace 6 = .ok (.ifCond .eq 16, 3) := by decide +kernel
theorem dX3_hasPlace_9 : decode cX3_hasPlace 9 = .ok (.iload_n 2, 1) := by decide +kernel
theorem dX3_hasPlace_10 : decode cX3_hasPlace 10 = .ok (.iconst 0, 1) := by decide +kernel
theorem dX3_hasPlace_11 : decode cX3_hasPlace 11 = .ok (.iconst 3, 1) := by decide +kernel
theorem dX3_hasPlace_12 : decode cX3_hasPlace 12 = .ok (.invokestatic 18, 3) := by decide +kernel
theorem dX3_hasPlace_15 : decode cX3_hasPlace 15 = .ok (.ifCond .eq 7, 3) := by decide +kernel
theorem dX3_hasPlace_18 : decode cX3_hasPlace 18 = .ok (.iconst 1, 1) := by decide +kernel
theorem dX3_hasPlace_19 : decode cX3_hasPlace 19 = .ok (.goto 4, 3) := by decide +kernel
theorem dX3_hasPlace_22 : decode cX3_hasPlace 22 = .ok (.iconst 0, 1) := by decide +kernel
theorem dX3_hasPlace_23 : decode cX3_hasPlace 23 = .ok (.ireturn, 1) := by decide +kernel
theorem dX3_takes_0 : decode cX3_takes 0 = .ok (.iload_n 1, 1) := by decide +kernel
theorem dX3_takes_1 : decode cX3_takes 1 = .ok (.bipush 8, 2) := by decide +kernel
theorem dX3_takes_3 : decode cX3_takes 3 = .ok (.if_icmp .lt 7, 3) := by decide +kernel
theorem dX3_takes_6 : decode cX3_takes 6 = .ok (.iconst 1, 1) := by decide +kernel
theorem dX3_takes_7 : decode cX3_takes 7 = .ok (.goto 4, 3) := by decide +kernel
theorem dX3_takes_10 : decode cX3_takes 10 = .ok (.iconst 0, 1) := by decide +kernel
theorem dX3_takes_11 : decode cX3_takes 11 = .ok (.istore_n 2, 1) := by decide +kernel
theorem dX3_takes_12 : decode cX3_takes 12 = .ok (.iload_n 0, 1) := by decide +kernel
theorem dX3_takes_13 : decode cX3_takes 13 = .ok (.iconst 2, 1) := by decide +kernel
theorem dX3_takes_14 : decode cX3_takes 14 = .ok (.if_icmp .eq 17, 3) := by decide +kernel
theorem dX3_takes_17 : decode cX3_takes 17 = .ok (.iload_n 2, 1) := by decide +kernel
theorem dX3_takes_18 : decode cX3_takes 18 = .ok (.iload_n 0, 1) := by decide +kernel
theorem dX3_takes_19 : decode cX3_takes 19 = .ok (.iconst 1, 1) := by decide +kernel
theorem dX3_takes_20 : decode cX3_takes 20 = .ok (.if_icmp .ne 7, 3) := by decide +kernel
theorem dX3_takes_23 : decode cX3_takes 23 = .ok (.iconst 1, 1) := by decide +kernel
theorem dX3_takes_24 : decode cX3_takes 24 = .ok (.goto 4, 3) := by decide +kernel
theorem dX3_takes_27 : decode cX3_takes 27 = .ok (.iconst 0, 1) := by decide +kernel
theorem dX3_takes_28 : decode cX3_takes 28 = .ok (.if_icmp .ne 7, 3) := by decide +kernel
theorem dX3_takes_31 : decode cX3_takes 31 = .ok (.iconst 1, 1) := by decide +kernel
theorem dX3_takes_32 : decode cX3_takes 32 = .ok (.goto 4, 3) := by decide +kernel
theorem dX3_takes_35 : decode cX3_takes 35 = .ok (.iconst 0, 1) := by decide +kernel
theorem dX3_takes_36 : decode cX3_takes 36 = .ok (.ireturn, 1) := by decide +kernel
theorem dX3_put_0 : decode cX3_put 0 = .ok (.aload_n 0, 1) := by decide +kernel
theorem dX3_put_1 : decode cX3_put 1 = .ok (.iload_n 1, 1) := by decide +kernel
theorem dX3_put_2 : decode cX3_put 2 = .ok (.iload_n 2, 1) := by decide +kernel
theorem dX3_put_3 : decode cX3_put 3 = .ok (.invokevirtual 22, 3) := by decide +kernel
theorem dX3_put_6 : decode cX3_put 6 = .ok (.ifCond .eq 14, 3) := by decide +kernel
theorem dX3_put_9 : decode cX3_put 9 = .ok (.aload_n 0, 1) := by decide +kernel
theorem dX3_put_10 : decode cX3_put 10 = .ok (.getfield 9, 3) := by decide +kernel
theorem dX3_put_13 : decode cX3_put 13 = .ok (.iload_n 1, 1) := by decide +kernel
theorem dX3_put_14 : decode cX3_put 14 = .ok (.iconst 4, 1) := by decide +kernel
theorem dX3_put_15 : decode cX3_put 15 = .ok (.imul, 1) := by decide +kernel
theorem dX3_put_16 : decode cX3_put 16 = .ok (.iload_n 2, 1) := by decide +kernel
theorem dX3_put_17 : decode cX3_put 17 = .ok (.iadd, 1) := by decide +kernel
theorem dX3_put_18 : decode cX3_put 18 = .ok (.iload_n 3, 1) := by decide +kernel
theorem dX3_put_19 : decode cX3_put 19 = .ok (.iastore, 1) := by decide +kernel
theorem dX3_put_20 : decode cX3_put 20 = .ok (.return_, 1) := by decide +kernel
theorem dX3_thingAt_0 : decode cX3_thingAt 0 = .ok (.aload_n 0, 1) := by decide +kernel
theorem dX3_thingAt_1 : decode cX3_thingAt 1 = .ok (.iload_n 1, 1) := by decide +kernel
theorem dX3_thingAt_2 : decode cX3_thingAt 2 = .ok (.iload_n 2, 1) := by decide +kernel
theorem dX3_thingAt_3 : decode cX3_thingAt 3 = .ok (.invokevirtual 22, 3) := by decide +kernel
theorem dX3_thingAt_6 : decode cX3_thingAt 6 = .ok (.ifCond .eq 16, 3) := by decide +kernel
theorem dX3_thingAt_9 : decode cX3_thingAt 9 = .ok (.aload_n 0, 1) := by decide +kernel
theorem dX3_thingAt_10 : decode cX3_thingAt 10 = .ok (.getfield 9, 3) := by decide +kernel
theorem dX3_thingAt_13 : decode cX3_thingAt 13 = .ok (.iload_n 1, 1) := by decide +kernel
theorem dX3_thingAt_14 : decode cX3_thingAt 14 = .ok (.iconst 4, 1) := by decide +kernel
theorem dX3_thingAt_15 : decode cX3_thingAt 15 = .ok (.imul, 1) := by decide +kernel
theorem dX3_thingAt_16 : decode cX3_thingAt 16 = .ok (.iload_n 2, 1) := by decide +kernel
theorem dX3_thingAt_17 : decode cX3_thingAt 17 = .ok (.iadd, 1) := by decide +kernel
theorem dX3_thingAt_18 : decode cX3_thingAt 18 = .ok (.iaload, 1) := by decide +kernel
theorem dX3_thingAt_19 : decode cX3_thingAt 19 = .ok (.goto 5, 3) := by decide +kernel
theorem dX3_thingAt_22 : decode cX3_thingAt 22 = .ok (.bipush (-4), 2) := by decide +kernel
theorem dX3_thingAt_24 : decode cX3_thingAt 24 = .ok (.ireturn, 1) := by decide +kernel
theorem dX3_things_0 : decode cX3_things 0 = .ok (.iconst 0, 1) := by decide +kernel
theorem dX3_things_1 : decode cX3_things 1 = .ok (.istore_n 1, 1) := by decide +kernel
theorem dX3_things_2 : decode cX3_things 2 = .ok (.iconst 0, 1) := by decide +kernel
theorem dX3_things_3 : decode cX3_things 3 = .ok (.istore_n 2, 1) := by decide +kernel
theorem dX3_things_4 : decode cX3_things 4 = .ok (.iload_n 2, 1) := by decide +kernel
theorem dX3_things_5 : decode cX3_things 5 = .ok (.aload_n 0, 1) := by decide +kernel
theorem dX3_things_6 : decode cX3_things 6 = .ok (.getfield 9, 3) := by decide +kernel
theorem dX3_things_9 : decode cX3_things 9 = .ok (.arraylength, 1) := by decide +kernel
theorem dX3_things_10 : decode cX3_things 10 = .ok (.if_icmp .ge 23, 3) := by decide +kernel
theorem dX3_things_13 : decode cX3_things 13 = .ok (.aload_n 0, 1) := by decide +kernel
theorem dX3_things_14 : decode cX3_things 14 = .ok (.getfield 9, 3) := by decide +kernel
theorem dX3_things_17 : decode cX3_things 17 = .ok (.iload_n 2, 1) := by decide +kernel
theorem dX3_things_18 : decode cX3_things 18 = .ok (.iaload, 1) := by decide +kernel
theorem dX3_things_19 : decode cX3_things 19 = .ok (.bipush (-4), 2) := by decide +kernel
theorem dX3_things_21 : decode cX3_things 21 = .ok (.if_icmp .eq 6, 3) := by decide +kernel
theorem dX3_things_24 : decode cX3_things 24 = .ok (.iinc 1 1, 3) := by decide +kernel
theorem dX3_things_27 : decode cX3_things 27 = .ok (.iinc 2 1, 3) := by decide +kernel
theorem dX3_things_30 : decode cX3_things 30 = .ok (.goto (-26), 3) := by decide +kernel
theorem dX3_things_33 : decode cX3_things 33 = .ok (.iload_n 1, 1) := by decide +kernel
theorem dX3_things_34 : decode cX3_things 34 = .ok (.ireturn, 1) := by decide +kernel
theorem dX4_init_0 : decode cX4_init 0 = .ok (.aload_n 0, 1) := by decide +kernel
theorem dX4_init_1 : decode cX4_init 1 = .ok (.invokespecial 3, 3) := by decide +kernel
theorem dX4_init_4 : decode cX4_init 4 = .ok (.aload_n 0, 1) := by decide +kernel
theorem dX4_init_5 : decode cX4_init 5 = .ok (.bipush 8, 2) := by decide +kernel
theorem dX4_init_7 : decode cX4_init 7 = .ok (.newarray .int, 2) := by decide +kernel
theorem dX4_init_9 : decode cX4_init 9 = .ok (.putfield 9, 3) := by decide +kernel
theorem dX4_init_12 : decode cX4_init 12 = .ok (.aload_n 0, 1) := by decide +kernel
theorem dX4_init_13 : decode cX4_init 13 = .ok (.bipush 8, 2) := by decide +kernel
theorem dX4_init_15 : decode cX4_init 15 = .ok (.newarray .int, 2) := by decide +kernel
theorem dX4_init_17 : decode cX4_init 17 = .ok (.putfield 15, 3) := by decide +kernel
theorem dX4_init_20 : decode cX4_init 20 = .ok (.aload_n 0, 1) := by decide +kernel
theorem dX4_init_21 : decode cX4_init 21 = .ok (.bipush 8, 2) := by decide +kernel
theorem dX4_init_23 : decode cX4_init 23 = .ok (.newarray .int, 2) := by decide +kernel
theorem dX4_init_25 : decode cX4_init 25 = .ok (.putfield 18, 3) := by decide +kernel
theorem dX4_init_28 : decode cX4_init 28 = .ok (.aload_n 0, 1) := by decide +kernel
theorem dX4_init_29 : decode cX4_init 29 = .ok (.bipush 8, 2) := by decide +kernel
theorem dX4_init_31 : decode cX4_init 31 = .ok (.newarray .int, 2) := by decide +kernel
theorem dX4_init_33 : decode cX4_init 33 = .ok (.putfield 21, 3) := by decide +kernel
theorem dX4_init_36 : decode cX4_init 36 = .ok (.aload_n 0, 1) := by decide +kernel
theorem dX4_init_37 : decode cX4_init 37 = .ok (.bipush 8, 2) := by decide +kernel
theorem dX4_init_39 : decode cX4_init 39 = .ok (.newarray .int, 2) := by decide +kernel
theorem dX4_init_41 : decode cX4_init 41 = .ok (.putfield 24, 3) := by decide +kernel
theorem dX4_init_44 : decode cX4_init 44 = .ok (.aload_n 0, 1) := by decide +kernel
theorem dX4_init_45 : decode cX4_init 45 = .ok (.bipush 8, 2) := by decide +kernel
theorem dX4_init_47 : decode cX4_init 47 = .ok (.newarray .int, 2) := by decide +kernel
theorem dX4_init_49 : decode cX4_init 49 = .ok (.putfield 27, 3) := by decide +kernel
theorem dX4_init_52 : decode cX4_init 52 = .ok (.return_, 1) := by decide +kernel
theorem dX4_clear_0 : decode cX4_clear 0 = .ok (.aload_n 0, 1) := by decide +kernel
theorem dX4_clear_1 : decode cX4_clear 1 = .ok (.iconst 0, 1) := by decide +kernel
theorem dX4_clear_2 : decode cX4_clear 2 = .ok (.putfield 30, 3) := by decide +kernel
theorem dX4_clear_5 : decode cX4_clear 5 = .ok (.aload_n 0, 1) := by decide +kernel
theorem dX4_clear_6 : decode cX4_clear 6 = .ok (.iconst 0, 1) := by decide +kernel
theorem dX4_clear_7 : decode cX4_clear 7 = .ok (.putfield 34, 3) := by decide +kernel
theorem dX4_clear_10 : decode cX4_clear 10 = .ok (.return_, 1) := by decide +kernel
theorem dX4_copy_0 : decode cX4_copy 0 = .ok (.aload_n 1, 1) := by decide +kernel
theorem dX4_copy_1 : decode cX4_copy 1 = .ok (.getfield 9, 3) := by decide +kernel
theorem dX4_copy_4 : decode cX4_copy 4 = .ok (.iconst 0, 1) := by decide +kernel
theorem dX4_copy_5 : decode cX4_copy 5 = .ok (.aload_n 0, 1) := by decide +kernel
theorem dX4_copy_6 : decode cX4_copy 6 = .ok (.getfield 9, 3) := by decide +kernel
theorem dX4_copy_9 : decode cX4_copy 9 = .ok (.iconst 0, 1) := by decide +kernel
theorem dX4_copy_10 : decode cX4_copy 10 = .ok (.bipush 8, 2) := by decide +kernel
theorem dX4_copy_12 : decode cX4_copy 12 = .ok (.invokestatic 37, 3) := by decide +kernel
theorem dX4_copy_15 : decode cX4_copy 15 = .ok (.aload_n 1, 1) := by decide +kernel
theorem dX4_copy_16 : decode cX4_copy 16 = .ok (.getfield 15, 3) := by decide +kernel
theorem dX4_copy_19 : decode cX4_copy 19 = .ok (.iconst 0, 1) := by decide +kernel
theorem dX4_copy_20 : decode cX4_copy 20 = .ok (.aload_n 0, 1) := by decide +kernel
theorem dX4_copy_21 : decode cX4_copy 21 = .ok (.getfield 15, 3) := by decide +kernel
theorem dX4_copy_24 : decode cX4_copy 24 = .ok (.iconst 0, 1) := by decide +kernel
theorem dX4_copy_25 : decode cX4_copy 25 = .ok (.bipush 8, 2) := by decide +kernel
theorem dX4_copy_27 : decode cX4_copy 27 = .ok (.invokestatic 37, 3) := by decide +kernel
theorem dX4_copy_30 : decode cX4_copy 30 = .ok (.aload_n 1, 1) := by decide +kernel
theorem dX4_copy_31 : decode cX4_copy 31 = .ok (.getfield 18, 3) := by decide +kernel
theorem dX4_copy_34 : decode cX4_copy 34 = .ok (.iconst 0, 1) := by decide +kernel
theorem dX4_copy_35 : decode cX4_copy 35 = .ok (.aload_n 0, 1) := by decide +kernel
theorem dX4_copy_36 : decode cX4_copy 36 = .ok (.getfield 18, 3) := by decide +kernel
theorem dX4_copy_39 : decode cX4_copy 39 = .ok (.iconst 0, 1) := by decide +kernel
theorem dX4_copy_40 : decode cX4_copy 40 = .ok (.bipush 8, 2) := by decide +kernel
theorem dX4_copy_42 : decode cX4_copy 42 = .ok (.invokestatic 37, 3) := by decide +kernel
theorem dX4_copy_45 : decode cX4_copy 45 = .ok (.aload_n 1, 1) := by decide +kernel
theorem dX4_copy_46 : decode cX4_copy 46 = .ok (.getfield 21, 3) := by decide +kernel
theorem dX4_copy_49 : decode cX4_copy 49 = .ok (.iconst 0, 1) := by decide +kernel
theorem dX4_copy_50 : decode cX4_copy 50 = .ok (.aload_n 0, 1) := by decide +kernel
theorem dX4_copy_51 : decode cX4_copy 51 = .ok (.getfield 21, 3) := by decide +kernel
theorem dX4_copy_54 : decode cX4_copy 54 = .ok (.iconst 0, 1) := by decide +kernel
theorem dX4_copy_55 : decode cX4_copy 55 = .ok (.bipush 8, 2) := by decide +kernel
theorem dX4_copy_57 : decode cX4_copy 57 = .ok (.invokestatic 37, 3) := by decide +kernel
theorem dX4_copy_60 : decode cX4_copy 60 = .ok (.aload_n 1, 1) := by decide +kernel
theorem dX4_copy_61 : decode cX4_copy 61 = .ok (.getfield 24, 3) := by decide +kernel
theorem dX4_copy_64 : decode cX4_copy 64 = .ok (.iconst 0, 1) := by decide +kernel
theorem dX4_copy_65 : decode cX4_copy 65 = .ok (.aload_n 0, 1) := by decide +kernel
theorem dX4_copy_66 : decode cX4_copy 66 = .ok (.getfield 24, 3) := by decide +kernel
theorem dX4_copy_69 : decode cX4_copy 69 = .ok (.iconst 0, 1) := by decide +kernel
theorem dX4_copy_70 : decode cX4_copy 70 = .ok (.bipush 8, 2) := by decide +kernel
theorem dX4_copy_72 : decode cX4_copy 72 = .ok (.invokestatic 37, 3) := by decide +kernel
theorem dX4_copy_75 : decode cX4_copy 75 = .ok (.aload_n 1, 1) := by decide +kernel
theorem dX4_copy_76 : decode cX4_copy 76 = .ok (.getfield 27, 3) := by decide +kernel
theorem dX4_copy_79 : decode cX4_copy 79 = .ok (.iconst 0, 1) := by decide +kernel
theorem dX4_copy_80 : decode cX4_copy 80 = .ok (.aload_n 0, 1) := by decide +kernel
theorem dX4_copy_81 : decode cX4_copy 81 = .ok (.getfield 27, 3) := by decide +kernel
theorem dX4_copy_84 : decode cX4_copy 84 = .ok (.iconst 0, 1) := by decide +kernel
theorem dX4_copy_85 : decode cX4_copy 85 = .ok (.bipush 8, 2) := by decide +kernel
theorem dX4_copy_87 : decode cX4_copy 87 = .ok (.invokestatic 37, 3) := by decide +kernel
theorem dX4_copy_90 : decode cX4_copy 90 = .ok (.aload_n 0, 1) := by decide +kernel
theorem dX4_copy_91 : decode cX4_copy 91 = .ok (.aload_n 1, 1) := by decide +kernel
theorem dX4_copy_92 : decode cX4_copy 92 = .ok (.getfield 30, 3) := by decide +kernel
theorem dX4_copy_95 : decode cX4_copy 95 = .ok (.putfield 30, 3) := by decide +kernel
theorem dX4_copy_98 : decode cX4_copy 98 = .ok (.aload_n 0, 1) := by decide +kernel
theorem dX4_copy_99 : decode cX4_copy 99 = .ok (.aload_n 1, 1) := by decide +kernel
theorem dX4_copy_100 : decode cX4_copy 100 = .ok (.getfield 34, 3) := by decide +kernel
theorem dX4_copy_103 : decode cX4_copy 103 = .ok (.putfield 34, 3) := by decide +kernel
theorem dX4_copy_106 : decode cX4_copy 106 = .ok (.return_, 1) := by decide +kernel
theorem dX4_meetings_0 : decode cX4_meetings 0 = .ok (.aload_n 0, 1) := by decide +kernel
theorem dX4_meetings_1 : decode cX4_meetings 1 = .ok (.getfield 30, 3) := by decide +kernel
theorem dX4_meetings_4 : decode cX4_meetings 4 = .ok (.ireturn, 1) := by decide +kernel
theorem dX4_streets_0 : decode cX4_streets 0 = .ok (.aload_n 0, 1) := by decide +kernel
theorem dX4_streets_1 : decode cX4_streets 1 = .ok (.getfield 34, 3) := by decide +kernel
theorem dX4_streets_4 : decode cX4_streets 4 = .ok (.ireturn, 1) := by decide +kernel
theorem dX4_hasMeeting_0 : decode cX4_hasMeeting 0 = .ok (.iload_n 1, 1) := by decide +kernel
theorem dX4_hasMeeting_1 : decode cX4_hasMeeting 1 = .ok (.ifCond .lt 15, 3) := by decide +kernel
theorem dX4_hasMeeting_4 : decode cX4_hasMeeting 4 = .ok (.iload_n 1, 1) := by decide +kernel
theorem dX4_hasMeeting_5 : decode cX4_hasMeeting 5 = .ok (.aload_n 0, 1) := by decide +kernel
theorem dX4_hasMeeting_6 : decode cX4_hasMeeting 6 = .ok (.getfield 30, 3) := by decide +kernel
theorem dX4_hasMeeting_9 : decode cX4_hasMeeting 9 = .ok (.if_icmp .ge 7, 3) := by decide +kernel
theorem dX4_hasMeeting_12 : decode cX4_hasMeeting 12 = .ok (.iconst 1, 1) := by decide +kernel
theorem dX4_hasMeeting_13 : decode cX4_hasMeeting 13 = .ok (.goto 4, 3) := by decide +kernel
theorem dX4_hasMeeting_16 : decode cX4_hasMeeting 16 = .ok (.iconst 0, 1) := by decide +kernel
theorem dX4_hasMeeting_17 : decode cX4_hasMeeting 17 = .ok (.ireturn, 1) := by decide +kernel
theorem dX4_hasStreet_0 : decode cX4_hasStreet 0 = .ok (.iload_n 1, 1) := by decide +kernel
theorem dX4_hasStreet_1 : decode cX4_hasStreet 1 = .ok (.ifCond .lt 15, 3) := by decide +kernel
theorem dX4_hasStreet_4 : decode cX4_hasStreet 4 = .ok (.iload_n 1, 1) := by decide +kernel
theorem dX4_hasStreet_5 : decode cX4_hasStreet 5 = .ok (.aload_n 0, 1) := by decide +kernel
theorem dX4_hasStreet_6 : decode cX4_hasStreet 6 = .ok (.getfield 34, 3) := by decide +kernel
theorem dX4_hasStreet_9 : decode cX4_hasStreet 9 = .ok (.if_icmp .ge 7, 3) := by decide +kernel
theorem dX4_hasStreet_12 : decode cX4_hasStreet 12 = .ok (.iconst 1, 1) := by decide +kernel
theorem dX4_hasStreet_13 : decode cX4_hasStreet 13 = .ok (.goto 4, 3) := by decide +kernel
theorem dX4_hasStreet_16 : decode cX4_hasStreet 16 = .ok (.iconst 0, 1) := by decide +kernel
theorem dX4_hasStreet_17 : decode cX4_hasStreet 17 = .ok (.ireturn, 1) := by decide +kernel
theorem dX4_kindOf_0 : decode cX4_kindOf 0 = .ok (.aload_n 0, 1) := by decide +kernel
theorem dX4_kindOf_1 : decode cX4_kindOf 1 = .ok (.iload_n 1, 1) := by decide +kernel
theorem dX4_kindOf_2 : decode cX4_kindOf 2 = .ok (.invokevirtual 43, 3) := by decide +kernel
theorem dX4_kindOf_5 : decode cX4_kindOf 5 = .ok (.ifCond .eq 12, 3) := by decide +kernel
theorem dX4_kindOf_8 : decode cX4_kindOf 8 = .ok (.aload_n 0, 1) := by decide +kernel
theorem dX4_kindOf_9 : decode cX4_kindOf 9 = .ok (.getfield 9, 3) := by decide +kernel
theorem dX4_kindOf_12 : decode cX4_kindOf 12 = .ok (.iload_n 1, 1) := by decide +kernel
theorem dX4_kindOf_13 : decode cX4_kindOf 13 = .ok (.iaload, 1) := by decide +kernel
theorem dX4_kindOf_14 : decode cX4_kindOf 14 = .ok (.goto 4, 3) := by decide +kernel
theorem dX4_kindOf_17 : decode cX4_kindOf 17 = .ok (.iconst 0, 1) := by decide +kernel
theorem dX4_kindOf_18 : decode cX4_kindOf 18 = .ok (.ireturn, 1) := by decide +kernel
theorem dX4_xOf_0 : decode cX4_xOf 0 = .ok (.aload_n 0, 1) := by decide +kernel
theorem dX4_xOf_1 : decode cX4_xOf 1 = .ok (.iload_n 1, 1) := by decide +kernel
theorem dX4_xOf_2 : decode cX4_xOf 2 = .ok (.invokevirtual 43, 3) := by decide +kernel
theorem dX4_xOf_5 : decode cX4_xOf 5 = .ok (.ifCond .eq 12, 3) := by decide +kernel
theorem dX4_xOf_8 : decode cX4_xOf 8 = .ok (.aload_n 0, 1) := by decide +kernel
theorem dX4_xOf_9 : decode cX4_xOf 9 = .ok (.getfield 15, 3) := by decide +kernel
theorem dX4_xOf_12 : decode cX4_xOf 12 = .ok (.iload_n 1, 1) := by decide +kernel
theorem dX4_xOf_13 : decode cX4_xOf 13 = .ok (.iaload, 1) := by decide +kernel
theorem dX4_xOf_14 : decode cX4_xOf 14 = .ok (.goto 4, 3) := by decide +kernel
theorem dX4_xOf_17 : decode cX4_xOf 17 = .ok (.iconst 0, 1) := by decide +kernel
theorem dX4_xOf_18 : decode cX4_xOf 18 = .ok (.ireturn, 1) := by decide +kernel
theorem dX4_yOf_0 : decode cX4_yOf 0 = .ok (.aload_n 0, 1) := by decide +kernel
theorem dX4_yOf_1 : decode cX4_yOf 1 = .ok (.iload_n 1, 1) := by decide +kernel
theorem dX4_yOf_2 : decode cX4_yOf 2 = .ok (.invokevirtual 43, 3) := by decide +kernel
theorem dX4_yOf_5 : decode cX4_yOf 5 = .ok (.ifCond .eq 12, 3) := by decide +kernel
theorem dX4_yOf_8 : decode cX4_yOf 8 = .ok (.aload_n 0, 1) := by decide +kernel
theorem dX4_yOf_9 : decode cX4_yOf 9 = .ok (.getfield 18, 3) := by decide +kernel
theorem dX4_yOf_12 : decode cX4_yOf 12 = .ok (.iload_n 1, 1) := by decide +kernel
theorem dX4_yOf_13 : decode cX4_yOf 13 = .ok (.iaload, 1) := by decide +kernel
theorem dX4_yOf_14 : decode cX4_yOf 14 = .ok (.goto 4, 3) := by decide +kernel
theorem dX4_yOf_17 : decode cX4_yOf 17 = .ok (.iconst 0, 1) := by decide +kernel
theorem dX4_yOf_18 : decode cX4_yOf 18 = .ok (.ireturn, 1) := by decide +kernel
theorem dX4_startOf_0 : decode cX4_startOf 0 = .ok (.aload_n 0, 1) := by decide +kernel
theorem dX4_startOf_1 : decode cX4_startOf 1 = .ok (.iload_n 1, 1) := by decide +kernel
theorem dX4_startOf_2 : decode cX4_startOf 2 = .ok (.invokevirtual 47, 3) := by decide +kernel
theorem dX4_startOf_5 : decode cX4_startOf 5 = .ok (.ifCond .eq 12, 3) := by decide +kernel
theorem dX4_startOf_8 : decode cX4_startOf 8 = .ok (.aload_n 0, 1) := by decide +kernel
theorem dX4_startOf_9 : decode cX4_startOf 9 = .ok (.getfield 21, 3) := by decide +kernel
theorem dX4_startOf_12 : decode cX4_startOf 12 = .ok (.iload_n 1, 1) := by decide +kernel
theorem dX4_startOf_13 : decode cX4_startOf 13 = .ok (.iaload, 1) := by decide +kernel
theorem dX4_startOf_14 : decode cX4_startOf 14 = .ok (.goto 4, 3) := by decide +kernel
theorem dX4_startOf_17 : decode cX4_startOf 17 = .ok (.iconst 0, 1) := by decide +kernel
theorem dX4_startOf_18 : decode cX4_startOf 18 = .ok (.ireturn, 1) := by decide +kernel
theorem dX4_endOf_0 : decode cX4_endOf 0 = .ok (.aload_n 0, 1) := by decide +kernel
theorem dX4_endOf_1 : decode cX4_endOf 1 = .ok (.iload_n 1, 1) := by decide +kernel
theorem dX4_endOf_2 : decode cX4_endOf 2 = .ok (.invokevirtual 47, 3) := by decide +kernel
theorem dX4_endOf_5 : decode cX4_endOf 5 = .ok (.ifCond .eq 12, 3) := by decide +kernel
theorem dX4_endOf_8 : decode cX4_endOf 8 = .ok (.aload_n 0, 1) := by decide +kernel
theorem dX4_endOf_9 : decode cX4_endOf 9 = .ok (.getfield 24, 3) := by decide +kernel
theorem dX4_endOf_12 : decode cX4_endOf 12 = .ok (.iload_n 1, 1) := by decide +kernel
theorem dX4_endOf_13 : decode cX4_endOf 13 = .ok (.iaload, 1) := by decide +kernel
theorem dX4_endOf_14 : decode cX4_endOf 14 = .ok (.goto 4, 3) := by decide +kernel
theorem dX4_endOf_17 : decode cX4_endOf 17 = .ok (.iconst 0, 1) := by decide +kernel
theorem dX4_endOf_18 : decode cX4_endOf 18 = .ok (.ireturn, 1) := by decide +kernel
theorem dX4_nameOf_0 : decode cX4_nameOf 0 = .ok (.aload_n 0, 1) := by decide +kernel
theorem dX4_nameOf_1 : decode cX4_nameOf 1 = .ok (.iload_n 1, 1) := by decide +kernel
theorem dX4_nameOf_2 : decode cX4_nameOf 2 = .ok (.invokevirtual 47, 3) := by decide +kernel
theorem dX4_nameOf_5 : decode cX4_nameOf 5 = .ok (.ifCond .eq 12, 3) := by decide +kernel
theorem dX4_nameOf_8 : decode cX4_nameOf 8 = .ok (.aload_n 0, 1) := by decide +kernel
theorem dX4_nameOf_9 : decode cX4_nameOf 9 = .ok (.getfield 27, 3) := by decide +kernel
theorem dX4_nameOf_12 : decode cX4_nameOf 12 = .ok (.iload_n 1, 1) := by decide +kernel
theorem dX4_nameOf_13 : decode cX4_nameOf 13 = .ok (.iaload, 1) := by decide +kernel
theorem dX4_nameOf_14 : decode cX4_nameOf 14 = .ok (.goto 4, 3) := by decide +kernel
theorem dX4_nameOf_17 : decode cX4_nameOf 17 = .ok (.iconst 0, 1) := by decide +kernel
theorem dX4_nameOf_18 : decode cX4_nameOf 18 = .ok (.ireturn, 1) := by decide +kernel
theorem dX4_otherEnd_0 : decode cX4_otherEnd 0 = .ok (.aload_n 0, 1) := by decide +kernel
theorem dX4_otherEnd_1 : decode cX4_otherEnd 1 = .ok (.iload_n 1, 1) := by decide +kernel
theorem dX4_otherEnd_2 : decode cX4_otherEnd 2 = .ok (.invokevirtual 47, 3) := by decide +kernel
theorem dX4_otherEnd_5 : decode cX4_otherEnd 5 = .ok (.ifCond .ne 5, 3) := by decide +kernel
theorem dX4_otherEnd_8 : decode cX4_otherEnd 8 = .ok (.iconst (-1), 1) := by decide +kernel
theorem dX4_otherEnd_9 : decode cX4_otherEnd 9 = .ok (.ireturn, 1) := by decide +kernel
theorem dX4_otherEnd_10 : decode cX4_otherEnd 10 = .ok (.aload_n 0, 1) := by decide +kernel
theorem dX4_otherEnd_11 : decode cX4_otherEnd 11 = .ok (.getfield 21, 3) := by decide +kernel
theorem dX4_otherEnd_14 : decode cX4_otherEnd 14 = .ok (.iload_n 1, 1) := by decide +kernel
theorem dX4_otherEnd_15 : decode cX4_otherEnd 15 = .ok (.iaload, 1) := by decide +kernel
theorem dX4_otherEnd_16 : decode cX4_otherEnd 16 = .ok (.iload_n 2, 1) := by decide +kernel
theorem dX4_otherEnd_17 : decode cX4_otherEnd 17 = .ok (.if_icmp .ne 10, 3) := by decide +kernel
theorem dX4_otherEnd_20 : decode cX4_otherEnd 20 = .ok (.aload_n 0, 1) := by decide +kernel
theorem dX4_otherEnd_21 : decode cX4_otherEnd 21 = .ok (.getfield 24, 3) := by decide +kernel
theorem dX4_otherEnd_24 : decode cX4_otherEnd 24 = .ok (.iload_n 1, 1) := by decide +kernel
theorem dX4_otherEnd_25 : decode cX4_otherEnd 25 = .ok (.iaload, 1) := by decide +kernel
theorem dX4_otherEnd_26 : decode cX4_otherEnd 26 = .ok (.ireturn, 1) := by decide +kernel
theorem dX4_otherEnd_27 : decode cX4_otherEnd 27 = .ok (.aload_n 0, 1) := by decide +kernel
theorem dX4_otherEnd_28 : decode cX4_otherEnd 28 = .ok (.getfield 24, 3) := by decide +kernel
theorem dX4_otherEnd_31 : decode cX4_otherEnd 31 = .ok (.iload_n 1, 1) := by decide +kernel
theorem dX4_otherEnd_32 : decode cX4_otherEnd 32 = .ok (.iaload, 1) := by decide +kernel
theorem dX4_otherEnd_33 : decode cX4_otherEnd 33 = .ok (.iload_n 2, 1) := by decide +kernel
theorem dX4_otherEnd_34 : decode cX4_otherEnd 34 = .ok (.if_icmp .ne 12, 3) := by decide +kernel
theorem dX4_otherEnd_37 : decode cX4_otherEnd 37 = .ok (.aload_n 0, 1) := by decide +kernel
theorem dX4_otherEnd_38 : decode cX4_otherEnd 38 = .ok (.getfield 21, 3) := by decide +kernel
theorem dX4_otherEnd_41 : decode cX4_otherEnd 41 = .ok (.iload_n 1, 1) := by decide +kernel
theorem dX4_otherEnd_42 : decode cX4_otherEnd 42 = .ok (.iaload, 1) := by decide +kernel
theorem dX4_otherEnd_43 : decode cX4_otherEnd 43 = .ok (.goto 4, 3) := by decide +kernel
theorem dX4_otherEnd_46 : decode cX4_otherEnd 46 = .ok (.iconst (-1), 1) := by decide +kernel
theorem dX4_otherEnd_47 : decode cX4_otherEnd 47 = .ok (.ireturn, 1) := by decide +kernel
theorem dX4_streetsAt_0 : decode cX4_streetsAt 0 = .ok (.iconst 0, 1) := by decide +kernel
theorem dX4_streetsAt_1 : decode cX4_streetsAt 1 = .ok (.istore_n 2, 1) := by decide +kernel
theorem dX4_streetsAt_2 : decode cX4_streetsAt 2 = .ok (.iconst 0, 1) := by decide +kernel
theorem dX4_streetsAt_3 : decode cX4_streetsAt 3 = .ok (.istore_n 3, 1) := by decide +kernel
theorem dX4_streetsAt_4 : decode cX4_streetsAt 4 = .ok (.iload_n 3, 1) := by decide +kernel
theorem dX4_streetsAt_5 : decode cX4_streetsAt 5 = .ok (.aload_n 0, 1) := by decide +kernel
theorem dX4_streetsAt_6 : decode cX4_streetsAt 6 = .ok (.getfield 34, 3) := by decide +kernel
theorem dX4_streetsAt_9 : decode cX4_streetsAt 9 = .ok (.if_icmp .ge 22, 3) := by decide +kernel
theorem dX4_streetsAt_12 : decode cX4_streetsAt 12 = .ok (.aload_n 0, 1) := by decide +kernel
theorem dX4_streetsAt_13 : decode cX4_streetsAt 13 = .ok (.iload_n 3, 1) := by decide +kernel
theorem dX4_streetsAt_14 : decode cX4_streetsAt 14 = .ok (.iload_n 1, 1) := by decide +kernel
theorem dX4_streetsAt_15 : decode cX4_streetsAt 15 = .ok (.invokevirtual 50, 3) := by decide +kernel
theorem dX4_streetsAt_18 : decode cX4_streetsAt 18 = .ok (.iconst (-1), 1) := by decide +kernel
theorem dX4_streetsAt_19 : decode cX4_streetsAt 19 = .ok (.if_icmp .eq 6, 3) := by decide +kernel
theorem dX4_streetsAt_22 : decode cX4_streetsAt 22 = .ok (.iinc 2 1, 3) := by decide +kernel
theorem dX4_streetsAt_25 : decode cX4_streetsAt 25 = .ok (.iinc 3 1, 3) := by decide +kernel
theorem dX4_streetsAt_28 : decode cX4_streetsAt 28 = .ok (.goto (-24), 3) := by decide +kernel
theorem dX4_streetsAt_31 : decode cX4_streetsAt 31 = .ok (.iload_n 2, 1) := by decide +kernel
theorem dX4_streetsAt_32 : decode cX4_streetsAt 32 = .ok (.ireturn, 1) := by decide +kernel
theorem dX4_streetBetween_0 : decode cX4_streetBetween 0 = .ok (.iconst 0, 1) := by decide +kernel
theorem dX4_streetBetween_1 : decode cX4_streetBetween 1 = .ok (.istore_n 3, 1) := by decide +kernel
theorem dX4_streetBetween_2 : decode cX4_streetBetween 2 = .ok (.iload_n 3, 1) := by decide +kernel
theorem dX4_streetBetween_3 : decode cX4_streetBetween 3 = .ok (.aload_n 0, 1) := by decide +kernel
theorem dX4_streetBetween_4 : decode cX4_streetBetween 4 = .ok (.getfield 34, 3) := by decide +kernel
theorem dX4_streetBetween_7 : decode cX4_streetBetween 7 = .ok (.if_icmp .ge 75, 3) := by decide +kernel
theorem dX4_streetBetween_10 : decode cX4_streetBetween 10 = .ok (.aload_n 0, 1) := by decide +kernel
theorem dX4_streetBetween_11 : decode cX4_streetBetween 11 = .ok (.getfield 21, 3) := by decide +kernel
theorem dX4_streetBetween_14 : decode cX4_streetBetween 14 = .ok (.iload_n 3, 1) := by decide +kernel
theorem dX4_streetBetween_15 : decode cX4_streetBetween 15 = .ok (.iaload, 1) := by decide +kernel
theorem dX4_streetBetween_16 : decode cX4_streetBetween 16 = .ok (.iload_n 1, 1) := by decide +kernel
theorem dX4_streetBetween_17 : decode cX4_streetBetween 17 = .ok (.if_icmp .ne 17, 3) := by decide +kernel
theorem dX4_streetBetween_20 : decode cX4_streetBetween 20 = .ok (.aload_n 0, 1) := by decide +kernel
theorem dX4_streetBetween_21 : decode cX4_streetBetween 21 = .ok (.getfield 24, 3) := by decide +kernel
theorem dX4_streetBetween_24 : decode cX4_streetBetween 24 = .ok (.iload_n 3, 1) := by decide +kernel
theorem dX4_streetBetween_25 : decode cX4_streetBetween 25 = .ok (.iaload, 1) := by decide +kernel
theorem dX4_streetBetween_26 : decode cX4_streetBetween 26 = .ok (.iload_n 2, 1) := by decide +kernel
theorem dX4_streetBetween_27 : decode cX4_streetBetween 27 = .ok (.if_icmp .ne 7, 3) := by decide +kernel
theorem dX4_streetBetween_30 : decode cX4_streetBetween 30 = .ok (.iconst 1, 1) := by decide +kernel
theorem dX4_streetBetween_31 : decode cX4_streetBetween 31 = .ok (.goto 4, 3) := by decide +kernel
theorem dX4_streetBetween_34 : decode cX4_streetBetween 34 = .ok (.iconst 0, 1) := by decide +kernel
theorem dX4_streetBetween_35 : decode cX4_streetBetween 35 = .ok (.istore 4, 2) := by decide +kernel
theorem dX4_streetBetween_37 : decode cX4_streetBetween 37 = .ok (.aload_n 0, 1) := by decide +kernel
theorem dX4_streetBetween_38 : decode cX4_streetBetween 38 = .ok (.getfield 21, 3) := by decide +kernel
theorem dX4_streetBetween_41 : decode cX4_streetBetween 41 = .ok (.iload_n 3, 1) := by decide +kernel
theorem dX4_streetBetween_42 : decode cX4_streetBetween 42 = .ok (.iaload, 1) := by decide +kernel
theorem dX4_streetBetween_43 : decode cX4_streetBetween 43 = .ok (.iload_n 2, 1) := by decide +kernel
theorem dX4_streetBetween_44 : decode cX4_streetBetween 44 = .ok (.if_icmp .ne 17, 3) := by decide +kernel
theorem dX4_streetBetween_47 : decode cX4_streetBetween 47 = .ok (.aload_n 0, 1) := by decide +kernel
theorem dX4_streetBetween_48 : decode cX4_streetBetween 48 = .ok (.getfield 24, 3) := by decide +kernel
theorem dX4_streetBetween_51 : decode cX4_streetBetween 51 = .ok (.iload_n 3, 1) := by decide +kernel
theorem dX4_streetBetween_52 : decode cX4_streetBetween 52 = .ok (.iaload, 1) := by decide +kernel
theorem dX4_streetBetween_53 : decode cX4_streetBetween 53 = .ok (.iload_n 1, 1) := by decide +kernel
theorem dX4_streetBetween_54 : decode cX4_streetBetween 54 = .ok (.if_icmp .ne 7, 3) := by decide +kernel
theorem dX4_streetBetween_57 : decode cX4_streetBetween 57 = .ok (.iconst 1, 1) := by decide +kernel
theorem dX4_streetBetween_58 : decode cX4_streetBetween 58 = .ok (.goto 4, 3) := by decide +kernel
theorem dX4_streetBetween_61 : decode cX4_streetBetween 61 = .ok (.iconst 0, 1) := by decide +kernel
theorem dX4_streetBetween_62 : decode cX4_streetBetween 62 = .ok (.istore 5, 2) := by decide +kernel
theorem dX4_streetBetween_64 : decode cX4_streetBetween 64 = .ok (.iload 4, 2) := by decide +kernel
theorem dX4_streetBetween_66 : decode cX4_streetBetween 66 = .ok (.ifCond .ne 8, 3) := by decide +kernel
theorem dX4_streetBetween_69 : decode cX4_streetBetween 69 = .ok (.iload 5, 2) := by decide +kernel
theorem dX4_streetBetween_71 : decode cX4_streetBetween 71 = .ok (.ifCond .eq 5, 3) := by decide +kernel
theorem dX4_streetBetween_74 : decode cX4_streetBetween 74 = .ok (.iload_n 3, 1) := by decide +kernel
theorem dX4_streetBetween_75 : decode cX4_streetBetween 75 = .ok (.ireturn, 1) := by decide +kernel
theorem dX4_streetBetween_76 : decode cX4_streetBetween 76 = .ok (.iinc 3 1, 3) := by decide +kernel
theorem dX4_streetBetween_79 : decode cX4_streetBetween 79 = .ok (.goto (-77), 3) := by decide +kernel
theorem dX4_streetBetween_82 : decode cX4_streetBetween 82 = .ok (.iconst (-1), 1) := by decide +kernel
theorem dX4_streetBetween_83 : decode cX4_streetBetween 83 = .ok (.ireturn, 1) := by decide +kernel
theorem dX4_twiceArea_0 : decode cX4_twiceArea 0 = .ok (.aload_n 0, 1) := by decide +kernel
theorem dX4_twiceArea_1 : decode cX4_twiceArea 1 = .ok (.iload_n 2, 1) := by decide +kernel
theorem dX4_twiceArea_2 : decode cX4_twiceArea 2 = .ok (.invokevirtual 54, 3) := by decide +kernel
theorem dX4_twiceArea_5 : decode cX4_twiceArea 5 = .ok (.aload_n 0, 1) := by decide +kernel
theorem dX4_twiceArea_6 : decode cX4_twiceArea 6 = .ok (.iload_n 1, 1) := by decide +kernel
theorem dX4_twiceArea_7 : decode cX4_twiceArea 7 = .ok (.invokevirtual 54, 3) := by decide +kernel
theorem dX4_twiceArea_10 : decode cX4_twiceArea 10 = .ok (.isub, 1) := by decide +kernel
theorem dX4_twiceArea_11 : decode cX4_twiceArea 11 = .ok (.istore 4, 2) := by decide +kernel
theorem dX4_twiceArea_13 : decode cX4_twiceArea 13 = .ok (.aload_n 0, 1) := by decide +kernel
theorem dX4_twiceArea_14 : decode cX4_twiceArea 14 = .ok (.iload_n 2, 1) := by decide +kernel
theorem dX4_twiceArea_15 : decode cX4_twiceArea 15 = .ok (.invokevirtual 58, 3) := by decide +kernel
theorem dX4_twiceArea_18 : decode cX4_twiceArea 18 = .ok (.aload_n 0, 1) := by decide +kernel
theorem dX4_twiceArea_19 : decode cX4_twiceArea 19 = .ok (.iload_n 1, 1) := by decide +kernel
theorem dX4_twiceArea_20 : decode cX4_twiceArea 20 = .ok (.invokevirtual 58, 3) := by decide +kernel
theorem dX4_twiceArea_23 : decode cX4_twiceArea 23 = .ok (.isub, 1) := by decide +kernel
theorem dX4_twiceArea_24 : decode cX4_twiceArea 24 = .ok (.istore 5, 2) := by decide +kernel
theorem dX4_twiceArea_26 : decode cX4_twiceArea 26 = .ok (.aload_n 0, 1) := by decide +kernel
theorem dX4_twiceArea_27 : decode cX4_twiceArea 27 = .ok (.iload_n 3, 1) := by decide +kernel
theorem dX4_twiceArea_28 : decode cX4_twiceArea 28 = .ok (.invokevirtual 54, 3) := by decide +kernel
theorem dX4_twiceArea_31 : decode cX4_twiceArea 31 = .ok (.aload_n 0, 1) := by decide +kernel
theorem dX4_twiceArea_32 : decode cX4_twiceArea 32 = .ok (.iload_n 1, 1) := by decide +kernel
theorem dX4_twiceArea_33 : decode cX4_twiceArea 33 = .ok (.invokevirtual 54, 3) := by decide +kernel
theorem dX4_twiceArea_36 : decode cX4_twiceArea 36 = .ok (.isub, 1) := by decide +kernel
theorem dX4_twiceArea_37 : decode cX4_twiceArea 37 = .ok (.istore 6, 2) := by decide +kernel
theorem dX4_twiceArea_39 : decode cX4_twiceArea 39 = .ok (.aload_n 0, 1) := by decide +kernel
theorem dX4_twiceArea_40 : decode cX4_twiceArea 40 = .ok (.iload_n 3, 1) := by decide +kernel
theorem dX4_twiceArea_41 : decode cX4_twiceArea 41 = .ok (.invokevirtual 58, 3) := by decide +kernel
theorem dX4_twiceArea_44 : decode cX4_twiceArea 44 = .ok (.aload_n 0, 1) := by decide +kernel
theorem dX4_twiceArea_45 : decode cX4_twiceArea 45 = .ok (.iload_n 1, 1) := by decide +kernel
theorem dX4_twiceArea_46 : decode cX4_twiceArea 46 = .ok (.invokevirtual 58, 3) := by decide +kernel
theorem dX4_twiceArea_49 : decode cX4_twiceArea 49 = .ok (.isub, 1) := by decide +kernel
theorem dX4_twiceArea_50 : decode cX4_twiceArea 50 = .ok (.istore 7, 2) := by decide +kernel
theorem dX4_twiceArea_52 : decode cX4_twiceArea 52 = .ok (.iload 4, 2) := by decide +kernel
theorem dX4_twiceArea_54 : decode cX4_twiceArea 54 = .ok (.iload 7, 2) := by decide +kernel
theorem dX4_twiceArea_56 : decode cX4_twiceArea 56 = .ok (.imul, 1) := by decide +kernel
theorem dX4_twiceArea_57 : decode cX4_twiceArea 57 = .ok (.iload 5, 2) := by decide +kernel
theorem dX4_twiceArea_59 : decode cX4_twiceArea 59 = .ok (.iload 6, 2) := by decide +kernel
theorem dX4_twiceArea_61 : decode cX4_twiceArea 61 = .ok (.imul, 1) := by decide +kernel
theorem dX4_twiceArea_62 : decode cX4_twiceArea 62 = .ok (.isub, 1) := by decide +kernel
theorem dX4_twiceArea_63 : decode cX4_twiceArea 63 = .ok (.ireturn, 1) := by decide +kernel
theorem dX4_addMeeting_0 : decode cX4_addMeeting 0 = .ok (.aload_n 0, 1) := by decide +kernel
theorem dX4_addMeeting_1 : decode cX4_addMeeting 1 = .ok (.getfield 30, 3) := by decide +kernel
theorem dX4_addMeeting_4 : decode cX4_addMeeting 4 = .ok (.bipush 8, 2) := by decide +kernel
theorem dX4_addMeeting_6 : decode cX4_addMeeting 6 = .ok (.if_icmp .ge 12, 3) := by decide +kernel
theorem dX4_addMeeting_9 : decode cX4_addMeeting 9 = .ok (.iload_n 1, 1) := by decide +kernel
theorem dX4_addMeeting_10 : decode cX4_addMeeting 10 = .ok (.iconst 0, 1) := by decide +kernel
theorem dX4_addMeeting_11 : decode cX4_addMeeting 11 = .ok (.iconst 3, 1) := by decide +kernel
theorem dX4_addMeeting_12 : decode cX4_addMeeting 12 = .ok (.invokestatic 61, 3) := by decide +kernel
theorem dX4_addMeeting_15 : decode cX4_addMeeting 15 = .ok (.ifCond .ne 5, 3) := by decide +kernel
theorem dX4_addMeeting_18 : decode cX4_addMeeting 18 = .ok (.iconst 0, 1) := by decide +kernel
theorem dX4_addMeeting_19 : decode cX4_addMeeting 19 = .ok (.ireturn, 1) := by decide +kernel
theorem dX4_addMeeting_20 : decode cX4_addMeeting 20 = .ok (.iload_n 2, 1) := by decide +kernel
theorem dX4_addMeeting_21 : decode cX4_addMeeting 21 = .ok (.iconst 0, 1) := by decide +kernel
theorem dX4_addMeeting_22 : decode cX4_addMeeting 22 = .ok (.bipush 60, 2) := by decide +kernel
theorem dX4_addMeeting_24 : decode cX4_addMeeting 24 = .ok (.invokestatic 61, 3) := by decide +kernel
theorem dX4_addMeeting_27 : decode cX4_addMeeting 27 = .ok (.ifCond .eq 13, 3) := by decide +kernel
theorem dX4_addMeeting_30 : decode cX4_addMeeting 30 = .ok (.iload_n 3, 1) := by decide +kernel
theorem dX4_addMeeting_31 : decode cX4_addMeeting 31 = .ok (.iconst 0, 1) := by decide +kernel
theorem dX4_addMeeting_32 : decode cX4_addMeeting 32 = .ok (.bipush 60, 2) := by decide +kernel
theorem dX4_addMeeting_34 : decode cX4_addMeeting 34 = .ok (.invokestatic 61, 3) := by decide +kernel
theorem dX4_addMeeting_37 : decode cX4_addMeeting 37 = .ok (.ifCond .ne 5, 3) := by decide +kernel
theorem dX4_addMeeting_40 : decode cX4_addMeeting 40 = .ok (.iconst 0, 1) := by decide +kernel
theorem dX4_addMeeting_41 : decode cX4_addMeeting 41 = .ok (.ireturn, 1) := by decide +kernel
theorem dX4_addMeeting_42 : decode cX4_addMeeting 42 = .ok (.aload_n 0, 1) := by decide +kernel
theorem dX4_addMeeting_43 : decode cX4_addMeeting 43 = .ok (.getfield 9, 3) := by decide +kernel
theorem dX4_addMeeting_46 : decode cX4_addMeeting 46 = .ok (.aload_n 0, 1) := by decide +kernel
theorem dX4_addMeeting_47 : decode cX4_addMeeting 47 = .ok (.getfield 30, 3) := by decide +kernel
theorem dX4_addMeeting_50 : decode cX4_addMeeting 50 = .ok (.iload_n 1, 1) := by decide +kernel
theorem dX4_addMeeting_51 : decode cX4_addMeeting 51 = .ok (.iastore, 1) := by decide +kernel
theorem dX4_addMeeting_52 : decode cX4_addMeeting 52 = .ok (.aload_n 0, 1) := by decide +kernel
theorem dX4_addMeeting_53 : decode cX4_addMeeting 53 = .ok (.getfield 15, 3) := by decide +kernel
theorem dX4_addMeeting_56 : decode cX4_addMeeting 56 = .ok (.aload_n 0, 1) := by decide +kernel
theorem dX4_addMeeting_57 : decode cX4_addMeeting 57 = .ok (.getfield 30, 3) := by decide +kernel
theorem dX4_addMeeting_60 : decode cX4_addMeeting 60 = .ok (.iload_n 2, 1) := by decide +kernel
theorem dX4_addMeeting_61 : decode cX4_addMeeting 61 = .ok (.iastore, 1) := by decide +kernel
theorem dX4_addMeeting_62 : decode cX4_addMeeting 62 = .ok (.aload_n 0, 1) := by decide +kernel
theorem dX4_addMeeting_63 : decode cX4_addMeeting 63 = .ok (.getfield 18, 3) := by decide +kernel
theorem dX4_addMeeting_66 : decode cX4_addMeeting 66 = .ok (.aload_n 0, 1) := by decide +kernel
theorem dX4_addMeeting_67 : decode cX4_addMeeting 67 = .ok (.getfield 30, 3) := by decide +kernel
theorem dX4_addMeeting_70 : decode cX4_addMeeting 70 = .ok (.iload_n 3, 1) := by decide +kernel
theorem dX4_addMeeting_71 : decode cX4_addMeeting 71 = .ok (.iastore, 1) := by decide +kernel
theorem dX4_addMeeting_72 : decode cX4_addMeeting 72 = .ok (.aload_n 0, 1) := by decide +kernel
theorem dX4_addMeeting_73 : decode cX4_addMeeting 73 = .ok (.dup, 1) := by decide +kernel
theorem dX4_addMeeting_74 : decode cX4_addMeeting 74 = .ok (.getfield 30, 3) := by decide +kernel
theorem dX4_addMeeting_77 : decode cX4_addMeeting 77 = .ok (.iconst 1, 1) := by decide +kernel
theorem dX4_addMeeting_78 : decode cX4_addMeeting 78 = .ok (.iadd, 1) := by decide +kernel
theorem dX4_addMeeting_79 : decode cX4_addMeeting 79 = .ok (.putfield 30, 3) := by decide +kernel
theorem dX4_addMeeting_82 : decode cX4_addMeeting 82 = .ok (.iconst 1, 1) := by decide +kernel
theorem dX4_addMeeting_83 : decode cX4_addMeeting 83 = .ok (.ireturn, 1) := by decide +kernel
theorem dX4_addStreet_0 : decode cX4_addStreet 0 = .ok (.aload_n 0, 1) := by decide +kernel
theorem dX4_addStreet_1 : decode cX4_addStreet 1 = .ok (.getfield 34, 3) := by decide +kernel
theorem dX4_addStreet_4 : decode cX4_addStreet 4 = .ok (.bipush 8, 2) := by decide +kernel
theorem dX4_addStreet_6 : decode cX4_addStreet 6 = .ok (.if_icmp .ge 24, 3) := by decide +kernel
theorem dX4_addStreet_9 : decode cX4_addStreet 9 = .ok (.aload_n 0, 1) := by decide +kernel
theorem dX4_addStreet_10 : decode cX4_addStreet 10 = .ok (.iload_n 1, 1) := by decide +kernel
theorem dX4_addStreet_11 : decode cX4_addStreet 11 = .ok (.invokevirtual 43, 3) := by decide +kernel
theorem dX4_addStreet_14 : decode cX4_addStreet 14 = .ok (.ifCond .eq 16, 3) := by decide +kernel
theorem dX4_addStreet_17 : decode cX4_addStreet 17 = .ok (.aload_n 0, 1) := by decide +kernel
theorem dX4_addStreet_18 : decode cX4_addStreet 18 = .ok (.iload_n 2, 1) := by decide +kernel
theorem dX4_addStreet_19 : decode cX4_addStreet 19 = .ok (.invokevirtual 43, 3) := by decide +kernel
theorem dX4_addStreet_22 : decode cX4_addStreet 22 = .ok (.ifCond .eq 8, 3) := by decide +kernel
theorem dX4_addStreet_25 : decode cX4_addStreet 25 = .ok (.iload_n 1, 1) := by decide +kernel
theorem dX4_addStreet_26 : decode cX4_addStreet 26 = .ok (.iload_n 2, 1) := by decide +kernel
theorem dX4_addStreet_27 : decode cX4_addStreet 27 = .ok (.if_icmp .ne 5, 3) := by decide +kernel
theorem dX4_addStreet_30 : decode cX4_addStreet 30 = .ok (.iconst 0, 1) := by decide +kernel
theorem dX4_addStreet_31 : decode cX4_addStreet 31 = .ok (.ireturn, 1) := by decide +kernel
theorem dX4_addStreet_32 : decode cX4_addStreet 32 = .ok (.aload_n 0, 1) := by decide +kernel
theorem dX4_addStreet_33 : decode cX4_addStreet 33 = .ok (.iload_n 1, 1) := by decide +kernel
theorem dX4_addStreet_34 : decode cX4_addStreet 34 = .ok (.iload_n 2, 1) := by decide +kernel
theorem dX4_addStreet_35 : decode cX4_addStreet 35 = .ok (.invokevirtual 65, 3) := by decide +kernel
theorem dX4_addStreet_38 : decode cX4_addStreet 38 = .ok (.iconst (-1), 1) := by decide +kernel
theorem dX4_addStreet_39 : decode cX4_addStreet 39 = .ok (.if_icmp .ne 13, 3) := by decide +kernel
theorem dX4_addStreet_42 : decode cX4_addStreet 42 = .ok (.iload_n 3, 1) := by decide +kernel
theorem dX4_addStreet_43 : decode cX4_addStreet 43 = .ok (.iconst 0, 1) := by decide +kernel
theorem dX4_addStreet_44 : decode cX4_addStreet 44 = .ok (.bipush 9, 2) := by decide +kernel
theorem dX4_addStreet_46 : decode cX4_addStreet 46 = .ok (.invokestatic 61, 3) := by decide +kernel
theorem dX4_addStreet_49 : decode cX4_addStreet 49 = .ok (.ifCond .ne 5, 3) := by decide +kernel
theorem dX4_addStreet_52 : decode cX4_addStreet 52 = .ok (.iconst 0, 1) := by decide +kernel
theorem dX4_addStreet_53 : decode cX4_addStreet 53 = .ok (.ireturn, 1) := by decide +kernel
theorem dX4_addStreet_54 : decode cX4_addStreet 54 = .ok (.aload_n 0, 1) := by decide +kernel
theorem dX4_addStreet_55 : decode cX4_addStreet 55 = .ok (.getfield 21, 3) := by decide +kernel
theorem dX4_addStreet_58 : decode cX4_addStreet 58 = .ok (.aload_n 0, 1) := by decide +kernel
theorem dX4_addStreet_59 : decode cX4_addStreet 59 = .ok (.getfield 34, 3) := by decide +kernel
theorem dX4_addStreet_62 : decode cX4_addStreet 62 = .ok (.iload_n 1, 1) := by decide +kernel
theorem dX4_addStreet_63 : decode cX4_addStreet 63 = .ok (.iastore, 1) := by decide +kernel
theorem dX4_addStreet_64 : decode cX4_addStreet 64 = .ok (.aload_n 0, 1) := by decide +kernel
theorem dX4_addStreet_65 : decode cX4_addStreet 65 = .ok (.getfield 24, 3) := by decide +kernel
theorem dX4_addStreet_68 : decode cX4_addStreet 68 = .ok (.aload_n 0, 1) := by decide +kernel
theorem dX4_addStreet_69 : decode cX4_addStreet 69 = .ok (.getfield 34, 3) := by decide +kernel
theorem dX4_addStreet_72 : decode cX4_addStreet 72 = .ok (.iload_n 2, 1) := by decide +kernel
theorem dX4_addStreet_73 : decode cX4_addStreet 73 = .ok (.iastore, 1) := by decide +kernel
theorem dX4_addStreet_74 : decode cX4_addStreet 74 = .ok (.aload_n 0, 1) := by decide +kernel
theorem dX4_addStreet_75 : decode cX4_addStreet 75 = .ok (.getfield 27, 3) := by decide +kernel
theorem dX4_addStreet_78 : decode cX4_addStreet 78 = .ok (.aload_n 0, 1) := by decide +kernel
theorem dX4_addStreet_79 : decode cX4_addStreet 79 = .ok (.getfield 34, 3) := by decide +kernel
theorem dX4_addStreet_82 : decode cX4_addStreet 82 = .ok (.iload_n 3, 1) := by decide +kernel
theorem dX4_addStreet_83 : decode cX4_addStreet 83 = .ok (.iastore, 1) := by decide +kernel
theorem dX4_addStreet_84 : decode cX4_addStreet 84 = .ok (.aload_n 0, 1) := by decide +kernel
theorem dX4_addStreet_85 : decode cX4_addStreet 85 = .ok (.dup, 1) := by decide +kernel
theorem dX4_addStreet_86 : decode cX4_addStreet 86 = .ok (.getfield 34, 3) := by decide +kernel
theorem dX4_addStreet_89 : decode cX4_addStreet 89 = .ok (.iconst 1, 1) := by decide +kernel
theorem dX4_addStreet_90 : decode cX4_addStreet 90 = .ok (.iadd, 1) := by decide +kernel
theorem dX4_addStreet_91 : decode cX4_addStreet 91 = .ok (.putfield 34, 3) := by decide +kernel
theorem dX4_addStreet_94 : decode cX4_addStreet 94 = .ok (.iconst 1, 1) := by decide +kernel
theorem dX4_addStreet_95 : decode cX4_addStreet 95 = .ok (.ireturn, 1) := by decide +kernel
theorem dX4_dropStreet_0 : decode cX4_dropStreet 0 = .ok (.aload_n 0, 1) := by decide +kernel
theorem dX4_dropStreet_1 : decode cX4_dropStreet 1 = .ok (.iload_n 1, 1) := by decide +kernel
theorem dX4_dropStreet_2 : decode cX4_dropStreet 2 = .ok (.invokevirtual 47, 3) := by decide +kernel
theorem dX4_dropStreet_5 : decode cX4_dropStreet 5 = .ok (.ifCond .ne 4, 3) := by decide +kernel
theorem dX4_dropStreet_8 : decode cX4_dropStreet 8 = .ok (.return_, 1) := by decide +kernel
theorem dX4_dropStreet_9 : decode cX4_dropStreet 9 = .ok (.iload_n 1, 1) := by decide +kernel
theorem dX4_dropStreet_10 : decode cX4_dropStreet 10 = .ok (.iconst 1, 1) := by decide +kernel
theorem dX4_dropStreet_11 : decode cX4_dropStreet 11 = .ok (.iadd, 1) := by decide +kernel
theorem dX4_dropStreet_12 : decode cX4_dropStreet 12 = .ok (.istore_n 2, 1) := by decide +kernel
theorem dX4_dropStreet_13 : decode cX4_dropStreet 13 = .ok (.iload_n 2, 1) := by decide +kernel
theorem dX4_dropStreet_14 : decode cX4_dropStreet 14 = .ok (.aload_n 0, 1) := by decide +kernel
theorem dX4_dropStreet_15 : decode cX4_dropStreet 15 = .ok (.getfield 34, 3) := by decide +kernel
theorem dX4_dropStreet_18 : decode cX4_dropStreet 18 = .ok (.if_icmp .ge 51, 3) := by decide +kernel
theorem dX4_dropStreet_21 : decode cX4_dropStreet 21 = .ok (.aload_n 0, 1) := by decide +kernel
theorem dX4_dropStreet_22 : decode cX4_dropStreet 22 = .ok (.getfield 21, 3) := by decide +kernel
theorem dX4_dropStreet_25 : decode cX4_dropStreet 25 = .ok (.iload_n 2, 1) := by decide +kernel
theorem dX4_dropStreet_26 : decode cX4_dropStreet 26 = .ok (.iconst 1, 1) := by decide +kernel
theorem dX4_dropStreet_27 : decode cX4_dropStreet 27 = .ok (.isub, 1) := by decide +kernel
theorem dX4_dropStreet_28 : decode cX4_dropStreet 28 = .ok (.aload_n 0, 1) := by decide +kernel
theorem dX4_dropStreet_29 : decode cX4_dropStreet 29 = .ok (.getfield 21, 3) := by decide +kernel
theorem dX4_dropStreet_32 : decode cX4_dropStreet 32 = .ok (.iload_n 2, 1) := by decide +kernel
theorem dX4_dropStreet_33 : decode cX4_dropStreet 33 = .ok (.iaload, 1) := by decide +kernel
theorem dX4_dropStreet_34 : decode cX4_dropStreet 34 = .ok (.iastore, 1) := by decide +kernel
theorem dX4_dropStreet_35 : decode cX4_dropStreet 35 = .ok (.aload_n 0, 1) := by decide +kernel
theorem dX4_dropStreet_36 : decode cX4_dropStreet 36 = .ok (.getfield 24, 3) := by decide +kernel
theorem dX4_dropStreet_39 : decode cX4_dropStreet 39 = .ok (.iload_n 2, 1) := by decide +kernel
theorem dX4_dropStreet_40 : decode cX4_dropStreet 40 = .ok (.iconst 1, 1) := by decide +kernel
theorem dX4_dropStreet_41 : decode cX4_dropStreet 41 = .ok (.isub, 1) := by decide +kernel
theorem dX4_dropStreet_42 : decode cX4_dropStreet 42 = .ok (.aload_n 0, 1) := by decide +kernel
theorem dX4_dropStreet_43 : decode cX4_dropStreet 43 = .ok (.getfield 24, 3) := by decide +kernel
theorem dX4_dropStreet_46 : decode cX4_dropStreet 46 = .ok (.iload_n 2, 1) := by decide +kernel
theorem dX4_dropStreet_47 : decode cX4_dropStreet 47 = .ok (.iaload, 1) := by decide +kernel
theorem dX4_dropStreet_48 : decode cX4_dropStreet 48 = .ok (.iastore, 1) := by decide +kernel
theorem dX4_dropStreet_49 : decode cX4_dropStreet 49 = .ok (.aload_n 0, 1) := by decide +kernel
theorem dX4_dropStreet_50 : decode cX4_dropStreet 50 = .ok (.getfield 27, 3) := by decide +kernel
theorem dX4_dropStreet_53 : decode cX4_dropStreet 53 = .ok (.iload_n 2, 1) := by decide +kernel
theorem dX4_dropStreet_54 : decode cX4_dropStreet 54 = .ok (.iconst 1, 1) := by decide +kernel
theorem dX4_dropStreet_55 : decode cX4_dropStreet 55 = .ok (.isub, 1) := by decide +kernel
theorem dX4_dropStreet_56 : decode cX4_dropStreet 56 = .ok (.aload_n 0, 1) := by decide +kernel
theorem dX4_dropStreet_57 : decode cX4_dropStreet 57 = .ok (.getfield 27, 3) := by decide +kernel
theorem dX4_dropStreet_60 : decode cX4_dropStreet 60 = .ok (.iload_n 2, 1) := by decide +kernel
theorem dX4_dropStreet_61 : decode cX4_dropStreet 61 = .ok (.iaload, 1) := by decide +kernel
theorem dX4_dropStreet_62 : decode cX4_dropStreet 62 = .ok (.iastore, 1) := by decide +kernel
theorem dX4_dropStreet_63 : decode cX4_dropStreet 63 = .ok (.iinc 2 1, 3) := by decide +kernel
theorem dX4_dropStreet_66 : decode cX4_dropStreet 66 = .ok (.goto (-53), 3) := by decide +kernel
theorem dX4_dropStreet_69 : decode cX4_dropStreet 69 = .ok (.aload_n 0, 1) := by decide +kernel
theorem dX4_dropStreet_70 : decode cX4_dropStreet 70 = .ok (.dup, 1) := by decide +kernel
theorem dX4_dropStreet_71 : decode cX4_dropStreet 71 = .ok (.getfield 34, 3) := by decide +kernel
theorem dX4_dropStreet_74 : decode cX4_dropStreet 74 = .ok (.iconst 1, 1) := by decide +kernel
theorem dX4_dropStreet_75 : decode cX4_dropStreet 75 = .ok (.isub, 1) := by decide +kernel
theorem dX4_dropStreet_76 : decode cX4_dropStreet 76 = .ok (.putfield 34, 3) := by decide +kernel
theorem dX4_dropStreet_79 : decode cX4_dropStreet 79 = .ok (.return_, 1) := by decide +kernel
theorem dX4_put_0 : decode cX4_put 0 = .ok (.aload_n 0, 1) := by decide +kernel
theorem dX4_put_1 : decode cX4_put 1 = .ok (.iload_n 1, 1) := by decide +kernel
theorem dX4_put_2 : decode cX4_put 2 = .ok (.invokevirtual 43, 3) := by decide +kernel
theorem dX4_put_5 : decode cX4_put 5 = .ok (.ifCond .eq 17, 3) := by decide +kernel
theorem dX4_put_8 : decode cX4_put 8 = .ok (.aload_n 0, 1) := by decide +kernel
theorem dX4_put_9 : decode cX4_put 9 = .ok (.getfield 15, 3) := by decide +kernel
theorem dX4_put_12 : decode cX4_put 12 = .ok (.iload_n 1, 1) := by decide +kernel
theorem dX4_put_13 : decode cX4_put 13 = .ok (.iload_n 2, 1) := by decide +kernel
theorem dX4_put_14 : decode cX4_put 14 = .ok (.iastore, 1) := by decide +kernel
theorem dX4_put_15 : decode cX4_put 15 = .ok (.aload_n 0, 1) := by decide +kernel
theorem dX4_put_16 : decode cX4_put 16 = .ok (.getfield 18, 3) := by decide +kernel
theorem dX4_put_19 : decode cX4_put 19 = .ok (.iload_n 1, 1) := by decide +kernel
theorem dX4_put_20 : decode cX4_put 20 = .ok (.iload_n 3, 1) := by decide +kernel
theorem dX4_put_21 : decode cX4_put 21 = .ok (.iastore, 1) := by decide +kernel
theorem dX4_put_22 : decode cX4_put 22 = .ok (.return_, 1) := by decide +kernel
theorem dX4_setKind_0 : decode cX4_setKind 0 = .ok (.aload_n 0, 1) := by decide +kernel
theorem dX4_setKind_1 : decode cX4_setKind 1 = .ok (.iload_n 1, 1) := by decide +kernel
theorem dX4_setKind_2 : decode cX4_setKind 2 = .ok (.invokevirtual 43, 3) := by decide +kernel
theorem dX4_setKind_5 : decode cX4_setKind 5 = .ok (.ifCond .eq 10, 3) := by decide +kernel
theorem dX4_setKind_8 : decode cX4_setKind 8 = .ok (.aload_n 0, 1) := by decide +kernel
theorem dX4_setKind_9 : decode cX4_setKind 9 = .ok (.getfield 9, 3) := by decide +kernel
theorem dX4_setKind_12 : decode cX4_setKind 12 = .ok (.iload_n 1, 1) := by decide +kernel
theorem dX4_setKind_13 : decode cX4_setKind 13 = .ok (.iload_n 2, 1) := by decide +kernel
theorem dX4_setKind_14 : decode cX4_setKind 14 = .ok (.iastore, 1) := by decide +kernel
theorem dX4_setKind_15 : decode cX4_setKind 15 = .ok (.return_, 1) := by decide +kernel
theorem dX4_setName_0 : decode cX4_setName 0 = .ok (.aload_n 0, 1) := by decide +kernel
theorem dX4_setName_1 : decode cX4_setName 1 = .ok (.iload_n 1, 1) := by decide +kernel
theorem dX4_setName_2 : decode cX4_setName 2 = .ok (.invokevirtual 47, 3) := by decide +kernel
theorem dX4_setName_5 : decode cX4_setName 5 = .ok (.ifCond .eq 10, 3) := by decide +kernel
theorem dX4_setName_8 : decode cX4_setName 8 = .ok (.aload_n 0, 1) := by decide +kernel
theorem dX4_setName_9 : decode cX4_setName 9 = .ok (.getfield 27, 3) := by decide +kernel
theorem dX4_setName_12 : decode cX4_setName 12 = .ok (.iload_n 1, 1) := by decide +kernel
theorem dX4_setName_13 : decode cX4_setName 13 = .ok (.iload_n 2, 1) := by decide +kernel
theorem dX4_setName_14 : decode cX4_setName 14 = .ok (.iastore, 1) := by decide +kernel
theorem dX4_setName_15 : decode cX4_setName 15 = .ok (.return_, 1) := by decide +kernel
theorem dX5_init_0 : decode cX5_init 0 = .ok (.aload_n 0, 1) := by decide +kernel
theorem dX5_init_1 : decode cX5_init 1 = .ok (.invokespecial 3, 3) := by decide +kernel
theorem dX5_init_4 : decode cX5_init 4 = .ok (.aload_n 0, 1) := by decide +kernel
theorem dX5_init_5 : decode cX5_init 5 = .ok (.sipush 200, 3) := by decide +kernel
theorem dX5_init_8 : decode cX5_init 8 = .ok (.newarray .char, 2) := by decide +kernel
theorem dX5_init_10 : decode cX5_init 10 = .ok (.putfield 9, 3) := by decide +kernel
theorem dX5_init_13 : decode cX5_init 13 = .ok (.return_, 1) := by decide +kernel
theorem dX5_length_0 : decode cX5_length 0 = .ok (.aload_n 0, 1) := by decide +kernel
theorem dX5_length_1 : decode cX5_length 1 = .ok (.getfield 15, 3) := by decide +kernel
theorem dX5_length_4 : decode cX5_length 4 = .ok (.ireturn, 1) := by decide +kernel
theorem dX5_add_0 : decode cX5_add 0 = .ok (.aload_n 0, 1) := by decide +kernel
theorem dX5_add_1 : decode cX5_add 1 = .ok (.getfield 15, 3) := by decide +kernel
theorem dX5_add_4 : decode cX5_add 4 = .ok (.aload_n 0, 1) := by decide +kernel
theorem dX5_add_5 : decode cX5_add 5 = .ok (.getfield 9, 3) := by decide +kernel
theorem dX5_add_8 : decode cX5_add 8 = .ok (.arraylength, 1) := by decide +kernel
theorem dX5_add_9 : decode cX5_add 9 = .ok (.if_icmp .lt 5, 3) := by decide +kernel
theorem dX5_add_12 : decode cX5_add 12 = .ok (.iconst 0, 1) := by decide +kernel
theorem dX5_add_13 : decode cX5_add 13 = .ok (.ireturn, 1) := by decide +kernel
theorem dX5_add_14 : decode cX5_add 14 = .ok (.aload_n 0, 1) := by decide +kernel
theorem dX5_add_15 : decode cX5_add 15 = .ok (.getfield 9, 3) := by decide +kernel
theorem dX5_add_18 : decode cX5_add 18 = .ok (.aload_n 0, 1) := by decide +kernel
theorem dX5_add_19 : decode cX5_add 19 = .ok (.getfield 15, 3) := by decide +kernel
theorem dX5_add_22 : decode cX5_add 22 = .ok (.iload_n 1, 1) := by decide +kernel
theorem dX5_add_23 : decode cX5_add 23 = .ok (.i2c, 1) := by decide +kernel
theorem dX5_add_24 : decode cX5_add 24 = .ok (.castore, 1) := by decide +kernel
theorem dX5_add_25 : decode cX5_add 25 = .ok (.aload_n 0, 1) := by decide +kernel
theorem dX5_add_26 : decode cX5_add 26 = .ok (.dup, 1) := by decide +kernel
theorem dX5_add_27 : decode cX5_add 27 = .ok (.getfield 15, 3) := by decide +kernel
theorem dX5_add_30 : decode cX5_add 30 = .ok (.iconst 1, 1) := by decide +kernel
theorem dX5_add_31 : decode cX5_add 31 = .ok (.iadd, 1) := by decide +kernel
theorem dX5_add_32 : decode cX5_add 32 = .ok (.putfield 15, 3) := by decide +kernel
theorem dX5_add_35 : decode cX5_add 35 = .ok (.iconst 1, 1) := by decide +kernel
theorem dX5_add_36 : decode cX5_add 36 = .ok (.ireturn, 1) := by decide +kernel
theorem dX5_clear_0 : decode cX5_clear 0 = .ok (.aload_n 0, 1) := by decide +kernel
theorem dX5_clear_1 : decode cX5_clear 1 = .ok (.iconst 0, 1) := by decide +kernel
theorem dX5_clear_2 : decode cX5_clear 2 = .ok (.putfield 15, 3) := by decide +kernel
theorem dX5_clear_5 : decode cX5_clear 5 = .ok (.return_, 1) := by decide +kernel
theorem dX5_letterAt_0 : decode cX5_letterAt 0 = .ok (.iload_n 1, 1) := by decide +kernel
theorem dX5_letterAt_1 : decode cX5_letterAt 1 = .ok (.ifCond .lt 20, 3) := by decide +kernel
theorem dX5_letterAt_4 : decode cX5_letterAt 4 = .ok (.iload_n 1, 1) := by decide +kernel
theorem dX5_letterAt_5 : decode cX5_letterAt 5 = .ok (.aload_n 0, 1) := by decide +kernel
theorem dX5_letterAt_6 : decode cX5_letterAt 6 = .ok (.getfield 15, 3) := by decide +kernel
theorem dX5_letterAt_9 : decode cX5_letterAt 9 = .ok (.if_icmp .ge 12, 3) := by decide +kernel
theorem dX5_letterAt_12 : decode cX5_letterAt 12 = .ok (.aload_n 0, 1) := by decide +kernel
theorem dX5_letterAt_13 : decode cX5_letterAt 13 = .ok (.getfield 9, 3) := by decide +kernel
theorem dX5_letterAt_16 : decode cX5_letterAt 16 = .ok (.iload_n 1, 1) := by decide +kernel
theorem dX5_letterAt_17 : decode cX5_letterAt 17 = .ok (.caload, 1) := by decide +kernel
theorem dX5_letterAt_18 : decode cX5_letterAt 18 = .ok (.goto 4, 3) := by decide +kernel
theorem dX5_letterAt_21 : decode cX5_letterAt 21 = .ok (.iconst 0, 1) := by decide +kernel
theorem dX5_letterAt_22 : decode cX5_letterAt 22 = .ok (.ireturn, 1) := by decide +kernel
theorem dX6_init_0 : decode cX6_init 0 = .ok (.aload_n 0, 1) := by decide +kernel
theorem dX6_init_1 : decode cX6_init 1 = .ok (.invokespecial 3, 3) := by decide +kernel
theorem dX6_init_4 : decode cX6_init 4 = .ok (.aload_n 0, 1) := by decide +kernel
theorem dX6_init_5 : decode cX6_init 5 = .ok (.new 9, 3) := by decide +kernel
theorem dX6_init_8 : decode cX6_init 8 = .ok (.dup, 1) := by decide +kernel
theorem dX6_init_9 : decode cX6_init 9 = .ok (.invokespecial 11, 3) := by decide +kernel
theorem dX6_init_12 : decode cX6_init 12 = .ok (.putfield 12, 3) := by decide +kernel
theorem dX6_init_15 : decode cX6_init 15 = .ok (.aload_n 0, 1) := by decide +kernel
theorem dX6_init_16 : decode cX6_init 16 = .ok (.new 9, 3) := by decide +kernel
theorem dX6_init_19 : decode cX6_init 19 = .ok (.dup, 1) := by decide +kernel
theorem dX6_init_20 : decode cX6_init 20 = .ok (.invokespecial 11, 3) := by decide +kernel
theorem dX6_init_23 : decode cX6_init 23 = .ok (.putfield 18, 3) := by decide +kernel
theorem dX6_init_26 : decode cX6_init 26 = .ok (.return_, 1) := by decide +kernel
theorem dX6_clear_0 : decode cX6_clear 0 = .ok (.aload_n 0, 1) := by decide +kernel
theorem dX6_clear_1 : decode cX6_clear 1 = .ok (.getfield 12, 3) := by decide +kernel
theorem dX6_clear_4 : decode cX6_clear 4 = .ok (.invokevirtual 21, 3) := by decide +kernel
theorem dX6_clear_7 : decode cX6_clear 7 = .ok (.aload_n 0, 1) := by decide +kernel
theorem dX6_clear_8 : decode cX6_clear 8 = .ok (.getfield 18, 3) := by decide +kernel
theorem dX6_clear_11 : decode cX6_clear 11 = .ok (.invokevirtual 21, 3) := by decide +kernel
theorem dX6_clear_14 : decode cX6_clear 14 = .ok (.aload_n 0, 1) := by decide +kernel
theorem dX6_clear_15 : decode cX6_clear 15 = .ok (.bipush 10, 2) := by decide +kernel
theorem dX6_clear_17 : decode cX6_clear 17 = .ok (.putfield 24, 3) := by decide +kernel
theorem dX6_clear_20 : decode cX6_clear 20 = .ok (.aload_n 0, 1) := by decide +kernel
theorem dX6_clear_21 : decode cX6_clear 21 = .ok (.iconst 2, 1) := by decide +kernel
theorem dX6_clear_22 : decode cX6_clear 22 = .ok (.putfield 28, 3) := by decide +kernel
theorem dX6_clear_25 : decode cX6_clear 25 = .ok (.return_, 1) := by decide +kernel
theorem dX6_copy_0 : decode cX6_copy 0 = .ok (.aload_n 0, 1) := by decide +kernel
theorem dX6_copy_1 : decode cX6_copy 1 = .ok (.getfield 12, 3) := by decide +kernel
theorem dX6_copy_4 : decode cX6_copy 4 = .ok (.aload_n 1, 1) := by decide +kernel
theorem dX6_copy_5 : decode cX6_copy 5 = .ok (.getfield 12, 3) := by decide +kernel
theorem dX6_copy_8 : decode cX6_copy 8 = .ok (.invokevirtual 31, 3) := by decide +kernel
theorem dX6_copy_11 : decode cX6_copy 11 = .ok (.aload_n 0, 1) := by decide +kernel
theorem dX6_copy_12 : decode cX6_copy 12 = .ok (.getfield 18, 3) := by decide +kernel
theorem dX6_copy_15 : decode cX6_copy 15 = .ok (.aload_n 1, 1) := by decide +kernel
theorem dX6_copy_16 : decode cX6_copy 16 = .ok (.getfield 18, 3) := by decide +kernel
theorem dX6_copy_19 : decode cX6_copy 19 = .ok (.invokevirtual 31, 3) := by decide +kernel
theorem dX6_copy_22 : decode cX6_copy 22 = .ok (.aload_n 0, 1) := by decide +kernel
theorem dX6_copy_23 : decode cX6_copy 23 = .ok (.aload_n 1, 1) := by decide +kernel
theorem dX6_copy_24 : decode cX6_copy 24 = .ok (.getfield 24, 3) := by decide +kernel
theorem dX6_copy_27 : decode cX6_copy 27 = .ok (.putfield 24, 3) := by decide +kernel
theorem dX6_copy_30 : decode cX6_copy 30 = .ok (.aload_n 0, 1) := by decide +kernel
theorem dX6_copy_31 : decode cX6_copy 31 = .ok (.aload_n 1, 1) := by decide +kernel
theorem dX6_copy_32 : decode cX6_copy 32 = .ok (.getfield 28, 3) := by decide +kernel
theorem dX6_copy_35 : decode cX6_copy 35 = .ok (.putfield 28, 3) := by decide +kernel
theorem dX6_copy_38 : decode cX6_copy 38 = .ok (.return_, 1) := by decide +kernel
theorem dX6_surveyOf_0 : decode cX6_surveyOf 0 = .ok (.iload_n 1, 1) := by decide +kernel
theorem dX6_surveyOf_1 : decode cX6_surveyOf 1 = .ok (.ifCond .ne 10, 3) := by decide +kernel
theorem dX6_surveyOf_4 : decode cX6_surveyOf 4 = .ok (.aload_n 0, 1) := by decide +kernel
theorem dX6_surveyOf_5 : decode cX6_surveyOf 5 = .ok (.getfield 12, 3) := by decide +kernel
theorem dX6_surveyOf_8 : decode cX6_surveyOf 8 = .ok (.goto 7, 3) := by decide +kernel
theorem dX6_surveyOf_11 : decode cX6_surveyOf 11 = .ok (.aload_n 0, 1) := by decide +kernel
theorem dX6_surveyOf_12 : decode cX6_surveyOf 12 = .ok (.getfield 18, 3) := by decide +kernel
theorem dX6_surveyOf_15 : decode cX6_surveyOf 15 = .ok (.areturn, 1) := by decide +kernel
theorem dX6_radius_0 : decode cX6_radius 0 = .ok (.aload_n 0, 1) := by decide +kernel
theorem dX6_radius_1 : decode cX6_radius 1 = .ok (.getfield 24, 3) := by decide +kernel
theorem dX6_radius_4 : decode cX6_radius 4 = .ok (.ireturn, 1) := by decide +kernel
theorem dX6_rounds_0 : decode cX6_rounds 0 = .ok (.aload_n 0, 1) := by decide +kernel
theorem dX6_rounds_1 : decode cX6_rounds 1 = .ok (.getfield 28, 3) := by decide +kernel
theorem dX6_rounds_4 : decode cX6_rounds 4 = .ok (.ireturn, 1) := by decide +kernel
theorem dX6_setRadius_0 : decode cX6_setRadius 0 = .ok (.iload_n 1, 1) := by decide +kernel
theorem dX6_setRadius_1 : decode cX6_setRadius 1 = .ok (.invokestatic 35, 3) := by decide +kernel
theorem dX6_setRadius_4 : decode cX6_setRadius 4 = .ok (.ifCond .ne 5, 3) := by decide +kernel
theorem dX6_setRadius_7 : decode cX6_setRadius 7 = .ok (.iconst 0, 1) := by decide +kernel
theorem dX6_setRadius_8 : decode cX6_setRadius 8 = .ok (.ireturn, 1) := by decide +kernel
theorem dX6_setRadius_9 : decode cX6_setRadius 9 = .ok (.aload_n 0, 1) := by decide +kernel
theorem dX6_setRadius_10 : decode cX6_setRadius 10 = .ok (.iload_n 1, 1) := by decide +kernel
theorem dX6_setRadius_11 : decode cX6_setRadius 11 = .ok (.putfield 24, 3) := by decide +kernel
theorem dX6_setRadius_14 : decode cX6_setRadius 14 = .ok (.iconst 1, 1) := by decide +kernel
theorem dX6_setRadius_15 : decode cX6_setRadius 15 = .ok (.ireturn, 1) := by decide +kernel
theorem dX6_setRounds_0 : decode cX6_setRounds 0 = .ok (.iload_n 1, 1) := by decide +kernel
theorem dX6_setRounds_1 : decode cX6_setRounds 1 = .ok (.invokestatic 39, 3) := by decide +kernel
theorem dX6_setRounds_4 : decode cX6_setRounds 4 = .ok (.ifCond .ne 5, 3) := by decide +kernel
theorem dX6_setRounds_7 : decode cX6_setRounds 7 = .ok (.iconst 0, 1) := by decide +kernel
theorem dX6_setRounds_8 : decode cX6_setRounds 8 = .ok (.ireturn, 1) := by decide +kernel
theorem dX6_setRounds_9 : decode cX6_setRounds 9 = .ok (.aload_n 0, 1) := by decide +kernel
theorem dX6_setRounds_10 : decode cX6_setRounds 10 = .ok (.iload_n 1, 1) := by decide +kernel
theorem dX6_setRounds_11 : decode cX6_setRounds 11 = .ok (.putfield 28, 3) := by decide +kernel
theorem dX6_setRounds_14 : decode cX6_setRounds 14 = .ok (.iconst 1, 1) := by decide +kernel
theorem dX6_setRounds_15 : decode cX6_setRounds 15 = .ok (.ireturn, 1) := by decide +kernel
theorem dX6_reachOf_0 : decode cX6_reachOf 0 = .ok (.aload_n 0, 1) := by decide +kernel
theorem dX6_reachOf_1 : decode cX6_reachOf 1 = .ok (.iload_n 1, 1) := by decide +kernel
theorem dX6_reachOf_2 : decode cX6_reachOf 2 = .ok (.invokevirtual 42, 3) := by decide +kernel
theorem dX6_reachOf_5 : decode cX6_reachOf 5 = .ok (.iload_n 2, 1) := by decide +kernel
theorem dX6_reachOf_6 : decode cX6_reachOf 6 = .ok (.invokevirtual 46, 3) := by decide +kernel
theorem dX6_reachOf_9 : decode cX6_reachOf 9 = .ok (.tableswitch 55 1 3 #[27, 34, 46], 27) := by decide +kernel
theorem dX6_reachOf_36 : decode cX6_reachOf 36 = .ok (.aload_n 0, 1) := by decide +kernel
theorem dX6_reachOf_37 : decode cX6_reachOf 37 = .ok (.getfield 24, 3) := by decide +kernel
theorem dX6_reachOf_40 : decode cX6_reachOf 40 = .ok (.iconst 2, 1) := by decide +kernel
theorem dX6_reachOf_41 : decode cX6_reachOf 41 = .ok (.idiv, 1) := by decide +kernel
theorem dX6_reachOf_42 : decode cX6_reachOf 42 = .ok (.ireturn, 1) := by decide +kernel
theorem dX6_reachOf_43 : decode cX6_reachOf 43 = .ok (.bipush 20, 2) := by decide +kernel
theorem dX6_reachOf_45 : decode cX6_reachOf 45 = .ok (.aload_n 0, 1) := by decide +kernel
theorem dX6_reachOf_46 : decode cX6_reachOf 46 = .ok (.getfield 24, 3) := by decide +kernel
theorem dX6_reachOf_49 : decode cX6_reachOf 49 = .ok (.iconst 5, 1) := by decide +kernel
theorem dX6_reachOf_50 : decode cX6_reachOf 50 = .ok (.iadd, 1) := by decide +kernel
theorem dX6_reachOf_51 : decode cX6_reachOf 51 = .ok (.invokestatic 50, 3) := by decide +kernel
theorem dX6_reachOf_54 : decode cX6_reachOf 54 = .ok (.ireturn, 1) := by decide +kernel
theorem dX6_reachOf_55 : decode cX6_reachOf 55 = .ok (.aload_n 0, 1) := by decide +kernel
theorem dX6_reachOf_56 : decode cX6_reachOf 56 = .ok (.getfield 24, 3) := by decide +kernel
theorem dX6_reachOf_59 : decode cX6_reachOf 59 = .ok (.iconst 2, 1) := by decide +kernel
theorem dX6_reachOf_60 : decode cX6_reachOf 60 = .ok (.idiv, 1) := by decide +kernel
theorem dX6_reachOf_61 : decode cX6_reachOf 61 = .ok (.iconst 1, 1) := by decide +kernel
theorem dX6_reachOf_62 : decode cX6_reachOf 62 = .ok (.iadd, 1) := by decide +kernel
theorem dX6_reachOf_63 : decode cX6_reachOf 63 = .ok (.ireturn, 1) := by decide +kernel
theorem dX6_reachOf_64 : decode cX6_reachOf 64 = .ok (.aload_n 0, 1) := by decide +kernel
theorem dX6_reachOf_65 : decode cX6_reachOf 65 = .ok (.getfield 24, 3) := by decide +kernel
theorem dX6_reachOf_68 : decode cX6_reachOf 68 = .ok (.ireturn, 1) := by decide +kernel
theorem dX6_squaredDistance_0 : decode cX6_squaredDistance 0 = .ok (.aload_n 0, 1) := by decide +kernel
theorem dX6_squaredDistance_1 : decode cX6_squaredDistance 1 = .ok (.getfield 12, 3) := by decide +kernel
theorem dX6_squaredDistance_4 : decode cX6_squaredDistance 4 = .ok (.iload_n 1, 1) := by decide +kernel
theorem dX6_squaredDistance_5 : decode cX6_squaredDistance 5 = .ok (.invokevirtual 56, 3) := by decide +kernel
theorem dX6_squaredDistance_8 : decode cX6_squaredDistance 8 = .ok (.aload_n 0, 1) := by decide +kernel
theorem dX6_squaredDistance_9 : decode cX6_squaredDistance 9 = .ok (.getfield 18, 3) := by decide +kernel
theorem dX6_squaredDistance_12 : decode cX6_squaredDistance 12 = .ok (.iload_n 2, 1) := by decide +kernel
theorem dX6_squaredDistance_13 : decode cX6_squaredDistance 13 = .ok (.invokevirtual 56, 3) := by decide +kernel
theorem dX6_squaredDistance_16 : decode cX6_squaredDistance 16 = .ok (.isub, 1) := by decide +kernel
theorem dX6_squaredDistance_17 : decode cX6_squaredDistance 17 = .ok (.istore_n 3, 1) := by decide +kernel
theorem dX6_squaredDistance_18 : decode cX6_squaredDistance 18 = .ok (.aload_n 0, 1) := by decide +kernel
theorem dX6_squaredDistance_19 : decode cX6_squaredDistance 19 = .ok (.getfield 12, 3) := by decide +kernel
theorem dX6_squaredDistance_22 : decode cX6_squaredDistance 22 = .ok (.iload_n 1, 1) := by decide +kernel
theorem dX6_squaredDistance_23 : decode cX6_squaredDistance 23 = .ok (.invokevirtual 59, 3) := by decide +kernel
theorem dX6_squaredDistance_26 : decode cX6_squaredDistance 26 = .ok (.aload_n 0, 1) := by decide +kernel
theorem dX6_squaredDistance_27 : decode cX6_squaredDistance 27 = .ok (.getfield 18, 3) := by decide +kernel
theorem dX6_squaredDistance_30 : decode cX6_squaredDistance 30 = .ok (.iload_n 2, 1) := by decide +kernel
theorem dX6_squaredDistance_31 : decode cX6_squaredDistance 31 = .ok (.invokevirtual 59, 3) := by decide +kernel
theorem dX6_squaredDistance_34 : decode cX6_squaredDistance 34 = .ok (.isub, 1) := by decide +kernel
theorem dX6_squaredDistance_35 : decode cX6_squaredDistance 35 = .ok (.istore 4, 2) := by decide +kernel
theorem dX6_squaredDistance_37 : decode cX6_squaredDistance 37 = .ok (.iload_n 3, 1) := by decide +kernel
theorem dX6_squaredDistance_38 : decode cX6_squaredDistance 38 = .ok (.iload_n 3, 1) := by decide +kernel
theorem dX6_squaredDistance_39 : decode cX6_squaredDistance 39 = .ok (.imul, 1) := by decide +kernel
theorem dX6_squaredDistance_40 : decode cX6_squaredDistance 40 = .ok (.iload 4, 2) := by decide +kernel
theorem dX6_squaredDistance_42 : decode cX6_squaredDistance 42 = .ok (.iload 4, 2) := by decide +kernel
theorem dX6_squaredDistance_44 : decode cX6_squaredDistance 44 = .ok (.imul, 1) := by decide +kernel
theorem dX6_squaredDistance_45 : decode cX6_squaredDistance 45 = .ok (.iadd, 1) := by decide +kernel
theorem dX6_squaredDistance_46 : decode cX6_squaredDistance 46 = .ok (.ireturn, 1) := by decide +kernel
theorem dX7_init_0 : decode cX7_init 0 = .ok (.aload_n 0, 1) := by decide +kernel
theorem dX7_init_1 : decode cX7_init 1 = .ok (.invokespecial 3, 3) := by decide +kernel
theorem dX7_init_4 : decode cX7_init 4 = .ok (.aload_n 0, 1) := by decide +kernel
theorem dX7_init_5 : decode cX7_init 5 = .ok (.iconst 1, 1) := by decide +kernel
theorem dX7_init_6 : decode cX7_init 6 = .ok (.putfield 9, 3) := by decide +kernel
theorem dX7_init_9 : decode cX7_init 9 = .ok (.return_, 1) := by decide +kernel
theorem dX7_topOfX_0 : decode cX7_topOfX 0 = .ok (.aload_n 0, 1) := by decide +kernel
theorem dX7_topOfX_1 : decode cX7_topOfX 1 = .ok (.getfield 15, 3) := by decide +kernel
theorem dX7_topOfX_4 : decode cX7_topOfX 4 = .ok (.aload_n 0, 1) := by decide +kernel
theorem dX7_topOfX_5 : decode cX7_topOfX 5 = .ok (.getfield 15, 3) := by decide +kernel
theorem dX7_topOfX_8 : decode cX7_topOfX 8 = .ok (.aload_n 0, 1) := by decide +kernel
theorem dX7_topOfX_9 : decode cX7_topOfX 9 = .ok (.getfield 9, 3) := by decide +kernel
theorem dX7_topOfX_12 : decode cX7_topOfX 12 = .ok (.invokestatic 18, 3) := by decide +kernel
theorem dX7_topOfX_15 : decode cX7_topOfX 15 = .ok (.ireturn, 1) := by decide +kernel
theorem dX7_bottomOfX_0 : decode cX7_bottomOfX 0 = .ok (.aload_n 0, 1) := by decide +kernel
theorem dX7_bottomOfX_1 : decode cX7_bottomOfX 1 = .ok (.getfield 9, 3) := by decide +kernel
theorem dX7_bottomOfX_4 : decode cX7_bottomOfX 4 = .ok (.aload_n 0, 1) := by decide +kernel
theorem dX7_bottomOfX_5 : decode cX7_bottomOfX 5 = .ok (.getfield 15, 3) := by decide +kernel
theorem dX7_bottomOfX_8 : decode cX7_bottomOfX 8 = .ok (.aload_n 0, 1) := by decide +kernel
theorem dX7_bottomOfX_9 : decode cX7_bottomOfX 9 = .ok (.getfield 9, 3) := by decide +kernel
theorem dX7_bottomOfX_12 : decode cX7_bottomOfX 12 = .ok (.invokestatic 18, 3) := by decide +kernel
theorem dX7_bottomOfX_15 : decode cX7_bottomOfX 15 = .ok (.ireturn, 1) := by decide +kernel
theorem dX7_topOfY_0 : decode cX7_topOfY 0 = .ok (.aload_n 0, 1) := by decide +kernel
theorem dX7_topOfY_1 : decode cX7_topOfY 1 = .ok (.getfield 22, 3) := by decide +kernel
theorem dX7_topOfY_4 : decode cX7_topOfY 4 = .ok (.aload_n 0, 1) := by decide +kernel
theorem dX7_topOfY_5 : decode cX7_topOfY 5 = .ok (.getfield 22, 3) := by decide +kernel
theorem dX7_topOfY_8 : decode cX7_topOfY 8 = .ok (.aload_n 0, 1) := by decide +kernel
theorem dX7_topOfY_9 : decode cX7_topOfY 9 = .ok (.getfield 9, 3) := by decide +kernel
theorem dX7_topOfY_12 : decode cX7_topOfY 12 = .ok (.invokestatic 18, 3) := by decide +kernel
theorem dX7_topOfY_15 : decode cX7_topOfY 15 = .ok (.ireturn, 1) := by decide +kernel
theorem dX7_bottomOfY_0 : decode cX7_bottomOfY 0 = .ok (.aload_n 0, 1) := by decide +kernel
theorem dX7_bottomOfY_1 : decode cX7_bottomOfY 1 = .ok (.getfield 9, 3) := by decide +kernel
theorem dX7_bottomOfY_4 : decode cX7_bottomOfY 4 = .ok (.aload_n 0, 1) := by decide +kernel
theorem dX7_bottomOfY_5 : decode cX7_bottomOfY 5 = .ok (.getfield 22, 3) := by decide +kernel
theorem dX7_bottomOfY_8 : decode cX7_bottomOfY 8 = .ok (.aload_n 0, 1) := by decide +kernel
theorem dX7_bottomOfY_9 : decode cX7_bottomOfY 9 = .ok (.getfield 9, 3) := by decide +kernel
theorem dX7_bottomOfY_12 : decode cX7_bottomOfY 12 = .ok (.invokestatic 18, 3) := by decide +kernel
theorem dX7_bottomOfY_15 : decode cX7_bottomOfY 15 = .ok (.ireturn, 1) := by decide +kernel
theorem dX7_find_0 : decode cX7_find 0 = .ok (.aload_n 1, 1) := by decide +kernel
theorem dX7_find_1 : decode cX7_find 1 = .ok (.iconst 0, 1) := by decide +kernel
theorem dX7_find_2 : decode cX7_find 2 = .ok (.invokevirtual 25, 3) := by decide +kernel
theorem dX7_find_5 : decode cX7_find 5 = .ok (.astore 4, 2) := by decide +kernel
theorem dX7_find_7 : decode cX7_find 7 = .ok (.aload_n 1, 1) := by decide +kernel
theorem dX7_find_8 : decode cX7_find 8 = .ok (.iconst 1, 1) := by decide +kernel
theorem dX7_find_9 : decode cX7_find 9 = .ok (.invokevirtual 25, 3) := by decide +kernel
theorem dX7_find_12 : decode cX7_find 12 = .ok (.astore 5, 2) := by decide +kernel
theorem dX7_find_14 : decode cX7_find 14 = .ok (.aload_n 2, 1) := by decide +kernel
theorem dX7_find_15 : decode cX7_find 15 = .ok (.iconst 0, 1) := by decide +kernel
theorem dX7_find_16 : decode cX7_find 16 = .ok (.iload_n 3, 1) := by decide +kernel
theorem dX7_find_17 : decode cX7_find 17 = .ok (.invokevirtual 31, 3) := by decide +kernel
theorem dX7_find_20 : decode cX7_find 20 = .ok (.istore 6, 2) := by decide +kernel
theorem dX7_find_22 : decode cX7_find 22 = .ok (.iload 6, 2) := by decide +kernel
theorem dX7_find_24 : decode cX7_find 24 = .ok (.iconst (-1), 1) := by decide +kernel
theorem dX7_find_25 : decode cX7_find 25 = .ok (.if_icmp .eq 25, 3) := by decide +kernel
theorem dX7_find_28 : decode cX7_find 28 = .ok (.aload_n 0, 1) := by decide +kernel
theorem dX7_find_29 : decode cX7_find 29 = .ok (.aload 5, 2) := by decide +kernel
theorem dX7_find_31 : decode cX7_find 31 = .ok (.iload 6, 2) := by decide +kernel
theorem dX7_find_33 : decode cX7_find 33 = .ok (.invokevirtual 37, 3) := by decide +kernel
theorem dX7_find_36 : decode cX7_find 36 = .ok (.aload 5, 2) := by decide +kernel
theorem dX7_find_38 : decode cX7_find 38 = .ok (.iload 6, 2) := by decide +kernel
theorem dX7_find_40 : decode cX7_find 40 = .ok (.invokevirtual 43, 3) := by decide +kernel
theorem dX7_find_43 : decode cX7_find 43 = .ok (.iconst 1, 1) := by decide +kernel
theorem dX7_find_44 : decode cX7_find 44 = .ok (.invokevirtual 46, 3) := by decide +kernel
theorem dX7_find_47 : decode cX7_find 47 = .ok (.goto 38, 3) := by decide +kernel
theorem dX7_find_50 : decode cX7_find 50 = .ok (.aload_n 0, 1) := by decide +kernel
theorem dX7_find_51 : decode cX7_find 51 = .ok (.aload 4, 2) := by decide +kernel
theorem dX7_find_53 : decode cX7_find 53 = .ok (.aload_n 2, 1) := by decide +kernel
theorem dX7_find_54 : decode cX7_find 54 = .ok (.iload_n 3, 1) := by decide +kernel
theorem dX7_find_55 : decode cX7_find 55 = .ok (.invokevirtual 50, 3) := by decide +kernel
theorem dX7_find_58 : decode cX7_find 58 = .ok (.ifCond .eq 13, 3) := by decide +kernel
theorem dX7_find_61 : decode cX7_find 61 = .ok (.aload_n 0, 1) := by decide +kernel
theorem dX7_find_62 : decode cX7_find 62 = .ok (.aload_n 1, 1) := by decide +kernel
theorem dX7_find_63 : decode cX7_find 63 = .ok (.aload_n 2, 1) := by decide +kernel
theorem dX7_find_64 : decode cX7_find 64 = .ok (.iload_n 3, 1) := by decide +kernel
theorem dX7_find_65 : decode cX7_find 65 = .ok (.invokevirtual 54, 3) := by decide +kernel
theorem dX7_find_68 : decode cX7_find 68 = .ok (.goto 17, 3) := by decide +kernel
theorem dX7_find_71 : decode cX7_find 71 = .ok (.aload_n 0, 1) := by decide +kernel
theorem dX7_find_72 : decode cX7_find 72 = .ok (.aload_n 1, 1) := by decide +kernel
theorem dX7_find_73 : decode cX7_find 73 = .ok (.aload_n 2, 1) := by decide +kernel
theorem dX7_find_74 : decode cX7_find 74 = .ok (.iload_n 3, 1) := by decide +kernel
theorem dX7_find_75 : decode cX7_find 75 = .ok (.aload 4, 2) := by decide +kernel
theorem dX7_find_77 : decode cX7_find 77 = .ok (.aload_n 2, 1) := by decide +kernel
theorem dX7_find_78 : decode cX7_find 78 = .ok (.iload_n 3, 1) := by decide +kernel
theorem dX7_find_79 : decode cX7_find 79 = .ok (.invokestatic 58, 3) := by decide +kernel
theorem dX7_find_82 : decode cX7_find 82 = .ok (.invokevirtual 62, 3) := by decide +kernel
theorem dX7_find_85 : decode cX7_find 85 = .ok (.return_, 1) := by decide +kernel
theorem dX7_set_0 : decode cX7_set 0 = .ok (.aload_n 0, 1) := by decide +kernel
theorem dX7_set_1 : decode cX7_set 1 = .ok (.iload_n 1, 1) := by decide +kernel
theorem dX7_set_2 : decode cX7_set 2 = .ok (.putfield 15, 3) := by decide +kernel
theorem dX7_set_5 : decode cX7_set 5 = .ok (.aload_n 0, 1) := by decide +kernel
theorem dX7_set_6 : decode cX7_set 6 = .ok (.iload_n 2, 1) := by decide +kernel
theorem dX7_set_7 : decode cX7_set 7 = .ok (.putfield 22, 3) := by decide +kernel
theorem dX7_set_10 : decode cX7_set 10 = .ok (.aload_n 0, 1) := by decide +kernel
theorem dX7_set_11 : decode cX7_set 11 = .ok (.iload_n 3, 1) := by decide +kernel
theorem dX7_set_12 : decode cX7_set 12 = .ok (.putfield 9, 3) := by decide +kernel
theorem dX7_set_15 : decode cX7_set 15 = .ok (.return_, 1) := by decide +kernel
theorem dX7_findTriangle_0 : decode cX7_findTriangle 0 = .ok (.iconst 0, 1) := by decide +kernel
theorem dX7_findTriangle_1 : decode cX7_findTriangle 1 = .ok (.istore 4, 2) := by decide +kernel
theorem dX7_findTriangle_3 : decode cX7_findTriangle 3 = .ok (.iconst 0, 1) := by decide +kernel
theorem dX7_findTriangle_4 : decode cX7_findTriangle 4 = .ok (.istore 5, 2) := by decide +kernel
theorem dX7_findTriangle_6 : decode cX7_findTriangle 6 = .ok (.iload 5, 2) := by decide +kernel
theorem dX7_findTriangle_8 : decode cX7_findTriangle 8 = .ok (.aload_n 1, 1) := by decide +kernel
theorem dX7_findTriangle_9 : decode cX7_findTriangle 9 = .ok (.invokevirtual 66, 3) := by decide +kernel
theorem dX7_findTriangle_12 : decode cX7_findTriangle 12 = .ok (.if_icmp .ge 144, 3) := by decide +kernel
theorem dX7_findTriangle_15 : decode cX7_findTriangle 15 = .ok (.iload 5, 2) := by decide +kernel
theorem dX7_findTriangle_17 : decode cX7_findTriangle 17 = .ok (.iconst 1, 1) := by decide +kernel
theorem dX7_findTriangle_18 : decode cX7_findTriangle 18 = .ok (.iadd, 1) := by decide +kernel
theorem dX7_findTriangle_19 : decode cX7_findTriangle 19 = .ok (.istore 6, 2) := by decide +kernel
theorem dX7_findTriangle_21 : decode cX7_findTriangle 21 = .ok (.iload 6, 2) := by decide +kernel
theorem dX7_findTriangle_23 : decode cX7_findTriangle 23 = .ok (.aload_n 1, 1) := by decide +kernel
theorem dX7_findTriangle_24 : decode cX7_findTriangle 24 = .ok (.invokevirtual 66, 3) := by decide +kernel
theorem dX7_findTriangle_27 : decode cX7_findTriangle 27 = .ok (.if_icmp .ge 123, 3) := by decide +kernel
theorem dX7_findTriangle_30 : decode cX7_findTriangle 30 = .ok (.iload 6, 2) := by decide +kernel
theorem dX7_findTriangle_32 : decode cX7_findTriangle 32 = .ok (.iconst 1, 1) := by decide +kernel
theorem dX7_findTriangle_33 : decode cX7_findTriangle 33 = .ok (.iadd, 1) := by decide +kernel
theorem dX7_findTriangle_34 : decode cX7_findTriangle 34 = .ok (.istore 7, 2) := by decide +kernel
theorem dX7_findTriangle_36 : decode cX7_findTriangle 36 = .ok (.iload 7, 2) := by decide +kernel
theorem dX7_findTriangle_38 : decode cX7_findTriangle 38 = .ok (.aload_n 1, 1) := by decide +kernel
theorem dX7_findTriangle_39 : decode cX7_findTriangle 39 = .ok (.invokevirtual 66, 3) := by decide +kernel
theorem dX7_findTriangle_42 : decode cX7_findTriangle 42 = .ok (.if_icmp .ge 102, 3) := by decide +kernel
theorem dX7_findTriangle_45 : decode cX7_findTriangle 45 = .ok (.aload_n 1, 1) := by decide +kernel
theorem dX7_findTriangle_46 : decode cX7_findTriangle 46 = .ok (.iload 5, 2) := by decide +kernel
theorem dX7_findTriangle_48 : decode cX7_findTriangle 48 = .ok (.iload 6, 2) := by decide +kernel
theorem dX7_findTriangle_50 : decode cX7_findTriangle 50 = .ok (.iload 7, 2) := by decide +kernel
theorem dX7_findTriangle_52 : decode cX7_findTriangle 52 = .ok (.invokevirtual 70, 3) := by decide +kernel
theorem dX7_findTriangle_55 : decode cX7_findTriangle 55 = .ok (.invokestatic 73, 3) := by decide +kernel
theorem dX7_findTriangle_58 : decode cX7_findTriangle 58 = .ok (.istore 8, 2) := by decide +kernel
theorem dX7_findTriangle_60 : decode cX7_findTriangle 60 = .ok (.iload 4, 2) := by decide +kernel
theorem dX7_findTriangle_62 : decode cX7_findTriangle 62 = .ok (.ifCond .eq 10, 3) := by decide +kernel
theorem dX7_findTriangle_65 : decode cX7_findTriangle 65 = .ok (.iload 8, 2) := by decide +kernel
theorem dX7_findTriangle_67 : decode cX7_findTriangle 67 = .ok (.iload 4, 2) := by decide +kernel
theorem dX7_findTriangle_69 : decode cX7_findTriangle 69 = .ok (.if_icmp .ge 7, 3) := by decide +kernel
theorem dX7_findTriangle_72 : decode cX7_findTriangle 72 = .ok (.iconst 1, 1) := by decide +kernel
theorem dX7_findTriangle_73 : decode cX7_findTriangle 73 = .ok (.goto 4, 3) := by decide +kernel
theorem dX7_findTriangle_76 : decode cX7_findTriangle 76 = .ok (.iconst 0, 1) := by decide +kernel
theorem dX7_findTriangle_77 : decode cX7_findTriangle 77 = .ok (.istore 9, 2) := by decide +kernel
theorem dX7_findTriangle_79 : decode cX7_findTriangle 79 = .ok (.iload 8, 2) := by decide +kernel
theorem dX7_findTriangle_81 : decode cX7_findTriangle 81 = .ok (.ifCond .le 57, 3) := by decide +kernel
theorem dX7_findTriangle_84 : decode cX7_findTriangle 84 = .ok (.iload 9, 2) := by decide +kernel
theorem dX7_findTriangle_86 : decode cX7_findTriangle 86 = .ok (.ifCond .eq 52, 3) := by decide +kernel
theorem dX7_findTriangle_89 : decode cX7_findTriangle 89 = .ok (.aload_n 2, 1) := by decide +kernel
theorem dX7_findTriangle_90 : decode cX7_findTriangle 90 = .ok (.iload 5, 2) := by decide +kernel
theorem dX7_findTriangle_92 : decode cX7_findTriangle 92 = .ok (.iload 6, 2) := by decide +kernel
theorem dX7_findTriangle_94 : decode cX7_findTriangle 94 = .ok (.iload 7, 2) := by decide +kernel
theorem dX7_findTriangle_96 : decode cX7_findTriangle 96 = .ok (.invokevirtual 78, 3) := by decide +kernel
theorem dX7_findTriangle_99 : decode cX7_findTriangle 99 = .ok (.ifCond .eq 39, 3) := by decide +kernel
theorem dX7_findTriangle_102 : decode cX7_findTriangle 102 = .ok (.aload_n 1, 1) := by decide +kernel
theorem dX7_findTriangle_103 : decode cX7_findTriangle 103 = .ok (.iload_n 3, 1) := by decide +kernel
theorem dX7_findTriangle_104 : decode cX7_findTriangle 104 = .ok (.iload 5, 2) := by decide +kernel
theorem dX7_findTriangle_106 : decode cX7_findTriangle 106 = .ok (.iload 6, 2) := by decide +kernel
theorem dX7_findTriangle_108 : decode cX7_findTriangle 108 = .ok (.iload 7, 2) := by decide +kernel
theorem dX7_findTriangle_110 : decode cX7_findTriangle 110 = .ok (.invokestatic 82, 3) := by decide +kernel
theorem dX7_findTriangle_113 : decode cX7_findTriangle 113 = .ok (.ifCond .eq 25, 3) := by decide +kernel
theorem dX7_findTriangle_116 : decode cX7_findTriangle 116 = .ok (.iload 8, 2) := by decide +kernel
theorem dX7_findTriangle_118 : decode cX7_findTriangle 118 = .ok (.istore 4, 2) := by decide +kernel
theorem dX7_findTriangle_120 : decode cX7_findTriangle 120 = .ok (.aload_n 0, 1) := by decide +kernel
theorem dX7_findTriangle_121 : decode cX7_findTriangle 121 = .ok (.iload 5, 2) := by decide +kernel
theorem dX7_findTriangle_123 : decode cX7_findTriangle 123 = .ok (.putfield 86, 3) := by decide +kernel
theorem dX7_findTriangle_126 : decode cX7_findTriangle 126 = .ok (.aload_n 0, 1) := by decide +kernel
theorem dX7_findTriangle_127 : decode cX7_findTriangle 127 = .ok (.iload 6, 2) := by decide +kernel
theorem dX7_findTriangle_129 : decode cX7_findTriangle 129 = .ok (.putfield 89, 3) := by decide +kernel
theorem dX7_findTriangle_132 : decode cX7_findTriangle 132 = .ok (.aload_n 0, 1) := by decide +kernel
theorem dX7_findTriangle_133 : decode cX7_findTriangle 133 = .ok (.iload 7, 2) := by decide +kernel
theorem dX7_findTriangle_135 : decode cX7_findTriangle 135 = .ok (.putfield 92, 3) := by decide +kernel
theorem dX7_findTriangle_138 : decode cX7_findTriangle 138 = .ok (.iinc 7 1, 3) := by decide +kernel
theorem dX7_findTriangle_141 : decode cX7_findTriangle 141 = .ok (.goto (-105), 3) := by decide +kernel
theorem dX7_findTriangle_144 : decode cX7_findTriangle 144 = .ok (.iinc 6 1, 3) := by decide +kernel
theorem dX7_findTriangle_147 : decode cX7_findTriangle 147 = .ok (.goto (-126), 3) := by decide +kernel
theorem dX7_findTriangle_150 : decode cX7_findTriangle 150 = .ok (.iinc 5 1, 3) := by decide +kernel
theorem dX7_findTriangle_153 : decode cX7_findTriangle 153 = .ok (.goto (-147), 3) := by decide +kernel
theorem dX7_findTriangle_156 : decode cX7_findTriangle 156 = .ok (.iload 4, 2) := by decide +kernel
theorem dX7_findTriangle_158 : decode cX7_findTriangle 158 = .ok (.ifCond .le 7, 3) := by decide +kernel
theorem dX7_findTriangle_161 : decode cX7_findTriangle 161 = .ok (.iconst 1, 1) := by decide +kernel
theorem dX7_findTriangle_162 : decode cX7_findTriangle 162 = .ok (.goto 4, 3) := by decide +kernel
theorem dX7_findTriangle_165 : decode cX7_findTriangle 165 = .ok (.iconst 0, 1) := by decide +kernel
theorem dX7_findTriangle_166 : decode cX7_findTriangle 166 = .ok (.ireturn, 1) := by decide +kernel
theorem dX7_isInside_0 : decode cX7_isInside 0 = .ok (.aload_n 0, 1) := by decide +kernel
theorem dX7_isInside_1 : decode cX7_isInside 1 = .ok (.iload_n 1, 1) := by decide +kernel
theorem dX7_isInside_2 : decode cX7_isInside 2 = .ok (.iload_n 3, 1) := by decide +kernel
theorem dX7_isInside_3 : decode cX7_isInside 3 = .ok (.iload 4, 2) := by decide +kernel
theorem dX7_isInside_5 : decode cX7_isInside 5 = .ok (.invokevirtual 70, 3) := by decide +kernel
theorem dX7_isInside_8 : decode cX7_isInside 8 = .ok (.invokestatic 73, 3) := by decide +kernel
theorem dX7_isInside_11 : decode cX7_isInside 11 = .ok (.aload_n 0, 1) := by decide +kernel
theorem dX7_isInside_12 : decode cX7_isInside 12 = .ok (.iload_n 2, 1) := by decide +kernel
theorem dX7_isInside_13 : decode cX7_isInside 13 = .ok (.iload_n 1, 1) := by decide +kernel
theorem dX7_isInside_14 : decode cX7_isInside 14 = .ok (.iload 4, 2) := by decide +kernel
theorem dX7_isInside_16 : decode cX7_isInside 16 = .ok (.invokevirtual 70, 3) := by decide +kernel
theorem dX7_isInside_19 : decode cX7_isInside 19 = .ok (.invokestatic 73, 3) := by decide +kernel
theorem dX7_isInside_22 : decode cX7_isInside 22 = .ok (.iadd, 1) := by decide +kernel
theorem dX7_isInside_23 : decode cX7_isInside 23 = .ok (.aload_n 0, 1) := by decide +kernel
theorem dX7_isInside_24 : decode cX7_isInside 24 = .ok (.iload_n 2, 1) := by decide +kernel
theorem dX7_isInside_25 : decode cX7_isInside 25 = .ok (.iload_n 3, 1) := by decide +kernel
theorem dX7_isInside_26 : decode cX7_isInside 26 = .ok (.iload_n 1, 1) := by decide +kernel
theorem dX7_isInside_27 : decode cX7_isInside 27 = .ok (.invokevirtual 70, 3) := by decide +kernel
theorem dX7_isInside_30 : decode cX7_isInside 30 = .ok (.invokestatic 73, 3) := by decide +kernel
theorem dX7_isInside_33 : decode cX7_isInside 33 = .ok (.iadd, 1) := by decide +kernel
theorem dX7_isInside_34 : decode cX7_isInside 34 = .ok (.istore 5, 2) := by decide +kernel
theorem dX7_isInside_36 : decode cX7_isInside 36 = .ok (.iload 5, 2) := by decide +kernel
theorem dX7_isInside_38 : decode cX7_isInside 38 = .ok (.aload_n 0, 1) := by decide +kernel
theorem dX7_isInside_39 : decode cX7_isInside 39 = .ok (.iload_n 2, 1) := by decide +kernel
theorem dX7_isInside_40 : decode cX7_isInside 40 = .ok (.iload_n 3, 1) := by decide +kernel
theorem dX7_isInside_41 : decode cX7_isInside 41 = .ok (.iload 4, 2) := by decide +kernel
theorem dX7_isInside_43 : decode cX7_isInside 43 = .ok (.invokevirtual 70, 3) := by decide +kernel
theorem dX7_isInside_46 : decode cX7_isInside 46 = .ok (.invokestatic 73, 3) := by decide +kernel
theorem dX7_isInside_49 : decode cX7_isInside 49 = .ok (.if_icmp .ne 7, 3) := by decide +kernel
theorem dX7_isInside_52 : decode cX7_isInside 52 = .ok (.iconst 1, 1) := by decide +kernel
theorem dX7_isInside_53 : decode cX7_isInside 53 = .ok (.goto 4, 3) := by decide +kernel
theorem dX7_isInside_56 : decode cX7_isInside 56 = .ok (.iconst 0, 1) := by decide +kernel
theorem dX7_isInside_57 : decode cX7_isInside 57 = .ok (.ireturn, 1) := by decide +kernel
theorem dX7_blend_0 : decode cX7_blend 0 = .ok (.aload_n 1, 1) := by decide +kernel
theorem dX7_blend_1 : decode cX7_blend 1 = .ok (.iconst 0, 1) := by decide +kernel
theorem dX7_blend_2 : decode cX7_blend 2 = .ok (.invokevirtual 25, 3) := by decide +kernel
theorem dX7_blend_5 : decode cX7_blend 5 = .ok (.astore 4, 2) := by decide +kernel
theorem dX7_blend_7 : decode cX7_blend 7 = .ok (.aload_n 1, 1) := by decide +kernel
theorem dX7_blend_8 : decode cX7_blend 8 = .ok (.iconst 1, 1) := by decide +kernel
theorem dX7_blend_9 : decode cX7_blend 9 = .ok (.invokevirtual 25, 3) := by decide +kernel
theorem dX7_blend_12 : decode cX7_blend 12 = .ok (.astore 5, 2) := by decide +kernel
theorem dX7_blend_14 : decode cX7_blend 14 = .ok (.aload 4, 2) := by decide +kernel
theorem dX7_blend_16 : decode cX7_blend 16 = .ok (.iload_n 3, 1) := by decide +kernel
theorem dX7_blend_17 : decode cX7_blend 17 = .ok (.aload_n 0, 1) := by decide +kernel
theorem dX7_blend_18 : decode cX7_blend 18 = .ok (.getfield 89, 3) := by decide +kernel
theorem dX7_blend_21 : decode cX7_blend 21 = .ok (.aload_n 0, 1) := by decide +kernel
theorem dX7_blend_22 : decode cX7_blend 22 = .ok (.getfield 92, 3) := by decide +kernel
theorem dX7_blend_25 : decode cX7_blend 25 = .ok (.invokevirtual 70, 3) := by decide +kernel
theorem dX7_blend_28 : decode cX7_blend 28 = .ok (.invokestatic 73, 3) := by decide +kernel
theorem dX7_blend_31 : decode cX7_blend 31 = .ok (.istore 6, 2) := by decide +kernel
theorem dX7_blend_33 : decode cX7_blend 33 = .ok (.aload 4, 2) := by decide +kernel
theorem dX7_blend_35 : decode cX7_blend 35 = .ok (.aload_n 0, 1) := by decide +kernel
theorem dX7_blend_36 : decode cX7_blend 36 = .ok (.getfield 86, 3) := by decide +kernel
theorem dX7_blend_39 : decode cX7_blend 39 = .ok (.iload_n 3, 1) := by decide +kernel
theorem dX7_blend_40 : decode cX7_blend 40 = .ok (.aload_n 0, 1) := by decide +kernel
theorem dX7_blend_41 : decode cX7_blend 41 = .ok (.getfield 92, 3) := by decide +kernel
theorem dX7_blend_44 : decode cX7_blend 44 = .ok (.invokevirtual 70, 3) := by decide +kernel
theorem dX7_blend_47 : decode cX7_blend 47 = .ok (.invokestatic 73, 3) := by decide +kernel
theorem dX7_blend_50 : decode cX7_blend 50 = .ok (.istore 7, 2) := by decide +kernel
theorem dX7_blend_52 : decode cX7_blend 52 = .ok (.aload 4, 2) := by decide +kernel
theorem dX7_blend_54 : decode cX7_blend 54 = .ok (.aload_n 0, 1) := by decide +kernel
theorem dX7_blend_55 : decode cX7_blend 55 = .ok (.getfield 86, 3) := by decide +kernel
theorem dX7_blend_58 : decode cX7_blend 58 = .ok (.aload_n 0, 1) := by decide +kernel
theorem dX7_blend_59 : decode cX7_blend 59 = .ok (.getfield 89, 3) := by decide +kernel
theorem dX7_blend_62 : decode cX7_blend 62 = .ok (.iload_n 3, 1) := by decide +kernel
theorem dX7_blend_63 : decode cX7_blend 63 = .ok (.invokevirtual 70, 3) := by decide +kernel
theorem dX7_blend_66 : decode cX7_blend 66 = .ok (.invokestatic 73, 3) := by decide +kernel
theorem dX7_blend_69 : decode cX7_blend 69 = .ok (.istore 8, 2) := by decide +kernel
theorem dX7_blend_71 : decode cX7_blend 71 = .ok (.aload_n 2, 1) := by decide +kernel
theorem dX7_blend_72 : decode cX7_blend 72 = .ok (.iconst 0, 1) := by decide +kernel
theorem dX7_blend_73 : decode cX7_blend 73 = .ok (.aload_n 0, 1) := by decide +kernel
theorem dX7_blend_74 : decode cX7_blend 74 = .ok (.getfield 86, 3) := by decide +kernel
theorem dX7_blend_77 : decode cX7_blend 77 = .ok (.invokevirtual 31, 3) := by decide +kernel
theorem dX7_blend_80 : decode cX7_blend 80 = .ok (.istore 9, 2) := by decide +kernel
theorem dX7_blend_82 : decode cX7_blend 82 = .ok (.aload_n 2, 1) := by decide +kernel
theorem dX7_blend_83 : decode cX7_blend 83 = .ok (.iconst 0, 1) := by decide +kernel
theorem dX7_blend_84 : decode cX7_blend 84 = .ok (.aload_n 0, 1) := by decide +kernel
theorem dX7_blend_85 : decode cX7_blend 85 = .ok (.getfield 89, 3) := by decide +kernel
theorem dX7_blend_88 : decode cX7_blend 88 = .ok (.invokevirtual 31, 3) := by decide +kernel
theorem dX7_blend_91 : decode cX7_blend 91 = .ok (.istore 10, 2) := by decide +kernel
theorem dX7_blend_93 : decode cX7_blend 93 = .ok (.aload_n 2, 1) := by decide +kernel
theorem dX7_blend_94 : decode cX7_blend 94 = .ok (.iconst 0, 1) := by decide +kernel
theorem dX7_blend_95 : decode cX7_blend 95 = .ok (.aload_n 0, 1) := by decide +kernel
theorem dX7_blend_96 : decode cX7_blend 96 = .ok (.getfield 92, 3) := by decide +kernel
theorem dX7_blend_99 : decode cX7_blend 99 = .ok (.invokevirtual 31, 3) := by decide +kernel
theorem dX7_blend_102 : decode cX7_blend 102 = .ok (.istore 11, 2) := by decide +kernel
theorem dX7_blend_104 : decode cX7_blend 104 = .ok (.iload 6, 2) := by decide +kernel
theorem dX7_blend_106 : decode cX7_blend 106 = .ok (.aload 5, 2) := by decide +kernel
theorem dX7_blend_108 : decode cX7_blend 108 = .ok (.iload 9, 2) := by decide +kernel
theorem dX7_blend_110 : decode cX7_blend 110 = .ok (.invokevirtual 37, 3) := by decide +kernel
theorem dX7_blend_113 : decode cX7_blend 113 = .ok (.imul, 1) := by decide +kernel
theorem dX7_blend_114 : decode cX7_blend 114 = .ok (.iload 7, 2) := by decide +kernel
theorem dX7_blend_116 : decode cX7_blend 116 = .ok (.aload 5, 2) := by decide +kernel
theorem dX7_blend_118 : decode cX7_blend 118 = .ok (.iload 10, 2) := by decide +kernel
theorem dX7_blend_120 : decode cX7_blend 120 = .ok (.invokevirtual 37, 3) := by decide +kernel
theorem dX7_blend_123 : decode cX7_blend 123 = .ok (.imul, 1) := by decide +kernel
theorem dX7_blend_124 : decode cX7_blend 124 = .ok (.iadd, 1) := by decide +kernel
theorem dX7_blend_125 : decode cX7_blend 125 = .ok (.iload 8, 2) := by decide +kernel
theorem dX7_blend_127 : decode cX7_blend 127 = .ok (.aload 5, 2) := by decide +kernel
theorem dX7_blend_129 : decode cX7_blend 129 = .ok (.iload 11, 2) := by decide +kernel
theorem dX7_blend_131 : decode cX7_blend 131 = .ok (.invokevirtual 37, 3) := by decide +kernel
theorem dX7_blend_134 : decode cX7_blend 134 = .ok (.imul, 1) := by decide +kernel
theorem dX7_blend_135 : decode cX7_blend 135 = .ok (.iadd, 1) := by decide +kernel
theorem dX7_blend_136 : decode cX7_blend 136 = .ok (.istore 12, 2) := by decide +kernel
theorem dX7_blend_138 : decode cX7_blend 138 = .ok (.iload 6, 2) := by decide +kernel
theorem dX7_blend_140 : decode cX7_blend 140 = .ok (.aload 5, 2) := by decide +kernel
theorem dX7_blend_142 : decode cX7_blend 142 = .ok (.iload 9, 2) := by decide +kernel
theorem dX7_blend_144 : decode cX7_blend 144 = .ok (.invokevirtual 43, 3) := by decide +kernel
theorem dX7_blend_147 : decode cX7_blend 147 = .ok (.imul, 1) := by decide +kernel
theorem dX7_blend_148 : decode cX7_blend 148 = .ok (.iload 7, 2) := by decide +kernel
theorem dX7_blend_150 : decode cX7_blend 150 = .ok (.aload 5, 2) := by decide +kernel
theorem dX7_blend_152 : decode cX7_blend 152 = .ok (.iload 10, 2) := by decide +kernel
theorem dX7_blend_154 : decode cX7_blend 154 = .ok (.invokevirtual 43, 3) := by decide +kernel
theorem dX7_blend_157 : decode cX7_blend 157 = .ok (.imul, 1) := by decide +kernel
theorem dX7_blend_158 : decode cX7_blend 158 = .ok (.iadd, 1) := by decide +kernel
theorem dX7_blend_159 : decode cX7_blend 159 = .ok (.iload 8, 2) := by decide +kernel
theorem dX7_blend_161 : decode cX7_blend 161 = .ok (.aload 5, 2) := by decide +kernel
theorem dX7_blend_163 : decode cX7_blend 163 = .ok (.iload 11, 2) := by decide +kernel
theorem dX7_blend_165 : decode cX7_blend 165 = .ok (.invokevirtual 43, 3) := by decide +kernel
theorem dX7_blend_168 : decode cX7_blend 168 = .ok (.imul, 1) := by decide +kernel
theorem dX7_blend_169 : decode cX7_blend 169 = .ok (.iadd, 1) := by decide +kernel
theorem dX7_blend_170 : decode cX7_blend 170 = .ok (.istore 13, 2) := by decide +kernel
theorem dX7_blend_172 : decode cX7_blend 172 = .ok (.aload_n 0, 1) := by decide +kernel
theorem dX7_blend_173 : decode cX7_blend 173 = .ok (.iload 12, 2) := by decide +kernel
theorem dX7_blend_175 : decode cX7_blend 175 = .ok (.iload 13, 2) := by decide +kernel
theorem dX7_blend_177 : decode cX7_blend 177 = .ok (.iload 6, 2) := by decide +kernel
theorem dX7_blend_179 : decode cX7_blend 179 = .ok (.iload 7, 2) := by decide +kernel
theorem dX7_blend_181 : decode cX7_blend 181 = .ok (.iadd, 1) := by decide +kernel
theorem dX7_blend_182 : decode cX7_blend 182 = .ok (.iload 8, 2) := by decide +kernel
theorem dX7_blend_184 : decode cX7_blend 184 = .ok (.iadd, 1) := by decide +kernel
theorem dX7_blend_185 : decode cX7_blend 185 = .ok (.invokevirtual 46, 3) := by decide +kernel
theorem dX7_blend_188 : decode cX7_blend 188 = .ok (.return_, 1) := by decide +kernel
theorem dX7_nearest_0 : decode cX7_nearest 0 = .ok (.iconst (-1), 1) := by decide +kernel
theorem dX7_nearest_1 : decode cX7_nearest 1 = .ok (.istore_n 3, 1) := by decide +kernel
theorem dX7_nearest_2 : decode cX7_nearest 2 = .ok (.iconst 0, 1) := by decide +kernel
theorem dX7_nearest_3 : decode cX7_nearest 3 = .ok (.istore 4, 2) := by decide +kernel
theorem dX7_nearest_5 : decode cX7_nearest 5 = .ok (.iconst 0, 1) := by decide +kernel
theorem dX7_nearest_6 : decode cX7_nearest 6 = .ok (.istore 5, 2) := by decide +kernel
theorem dX7_nearest_8 : decode cX7_nearest 8 = .ok (.iload 5, 2) := by decide +kernel
theorem dX7_nearest_10 : decode cX7_nearest 10 = .ok (.aload_n 0, 1) := by decide +kernel
theorem dX7_nearest_11 : decode cX7_nearest 11 = .ok (.invokevirtual 66, 3) := by decide +kernel
theorem dX7_nearest_14 : decode cX7_nearest 14 = .ok (.if_icmp .ge 92, 3) := by decide +kernel
theorem dX7_nearest_17 : decode cX7_nearest 17 = .ok (.aload_n 0, 1) := by decide +kernel
theorem dX7_nearest_18 : decode cX7_nearest 18 = .ok (.iload 5, 2) := by decide +kernel
theorem dX7_nearest_20 : decode cX7_nearest 20 = .ok (.invokevirtual 37, 3) := by decide +kernel
theorem dX7_nearest_23 : decode cX7_nearest 23 = .ok (.aload_n 0, 1) := by decide +kernel
theorem dX7_nearest_24 : decode cX7_nearest 24 = .ok (.iload_n 2, 1) := by decide +kernel
theorem dX7_nearest_25 : decode cX7_nearest 25 = .ok (.invokevirtual 37, 3) := by decide +kernel
theorem dX7_nearest_28 : decode cX7_nearest 28 = .ok (.isub, 1) := by decide +kernel
theorem dX7_nearest_29 : decode cX7_nearest 29 = .ok (.istore 6, 2) := by decide +kernel
theorem dX7_nearest_31 : decode cX7_nearest 31 = .ok (.aload_n 0, 1) := by decide +kernel
theorem dX7_nearest_32 : decode cX7_nearest 32 = .ok (.iload 5, 2) := by decide +kernel
theorem dX7_nearest_34 : decode cX7_nearest 34 = .ok (.invokevirtual 43, 3) := by decide +kernel
theorem dX7_nearest_37 : decode cX7_nearest 37 = .ok (.aload_n 0, 1) := by decide +kernel
theorem dX7_nearest_38 : decode cX7_nearest 38 = .ok (.iload_n 2, 1) := by decide +kernel
theorem dX7_nearest_39 : decode cX7_nearest 39 = .ok (.invokevirtual 43, 3) := by decide +kernel
theorem dX7_nearest_42 : decode cX7_nearest 42 = .ok (.isub, 1) := by decide +kernel
theorem dX7_nearest_43 : decode cX7_nearest 43 = .ok (.istore 7, 2) := by decide +kernel
theorem dX7_nearest_45 : decode cX7_nearest 45 = .ok (.iload 6, 2) := by decide +kernel
theorem dX7_nearest_47 : decode cX7_nearest 47 = .ok (.iload 6, 2) := by decide +kernel
theorem dX7_nearest_49 : decode cX7_nearest 49 = .ok (.imul, 1) := by decide +kernel
theorem dX7_nearest_50 : decode cX7_nearest 50 = .ok (.iload 7, 2) := by decide +kernel
theorem dX7_nearest_52 : decode cX7_nearest 52 = .ok (.iload 7, 2) := by decide +kernel
theorem dX7_nearest_54 : decode cX7_nearest 54 = .ok (.imul, 1) := by decide +kernel
theorem dX7_nearest_55 : decode cX7_nearest 55 = .ok (.iadd, 1) := by decide +kernel
theorem dX7_nearest_56 : decode cX7_nearest 56 = .ok (.istore 8, 2) := by decide +kernel
theorem dX7_nearest_58 : decode cX7_nearest 58 = .ok (.iload_n 3, 1) := by decide +kernel
theorem dX7_nearest_59 : decode cX7_nearest 59 = .ok (.iconst (-1), 1) := by decide +kernel
theorem dX7_nearest_60 : decode cX7_nearest 60 = .ok (.if_icmp .eq 10, 3) := by decide +kernel
theorem dX7_nearest_63 : decode cX7_nearest 63 = .ok (.iload 8, 2) := by decide +kernel
theorem dX7_nearest_65 : decode cX7_nearest 65 = .ok (.iload 4, 2) := by decide +kernel
theorem dX7_nearest_67 : decode cX7_nearest 67 = .ok (.if_icmp .ge 7, 3) := by decide +kernel
theorem dX7_nearest_70 : decode cX7_nearest 70 = .ok (.iconst 1, 1) := by decide +kernel
theorem dX7_nearest_71 : decode cX7_nearest 71 = .ok (.goto 4, 3) := by decide +kernel
theorem dX7_nearest_74 : decode cX7_nearest 74 = .ok (.iconst 0, 1) := by decide +kernel
theorem dX7_nearest_75 : decode cX7_nearest 75 = .ok (.istore 9, 2) := by decide +kernel
theorem dX7_nearest_77 : decode cX7_nearest 77 = .ok (.iload 9, 2) := by decide +kernel
theorem dX7_nearest_79 : decode cX7_nearest 79 = .ok (.ifCond .eq 21, 3) := by decide +kernel
theorem dX7_nearest_82 : decode cX7_nearest 82 = .ok (.aload_n 1, 1) := by decide +kernel
theorem dX7_nearest_83 : decode cX7_nearest 83 = .ok (.iconst 0, 1) := by decide +kernel
theorem dX7_nearest_84 : decode cX7_nearest 84 = .ok (.iload 5, 2) := by decide +kernel
theorem dX7_nearest_86 : decode cX7_nearest 86 = .ok (.invokevirtual 31, 3) := by decide +kernel
theorem dX7_nearest_89 : decode cX7_nearest 89 = .ok (.iconst (-1), 1) := by decide +kernel
theorem dX7_nearest_90 : decode cX7_nearest 90 = .ok (.if_icmp .eq 10, 3) := by decide +kernel
theorem dX7_nearest_93 : decode cX7_nearest 93 = .ok (.iload 5, 2) := by decide +kernel
theorem dX7_nearest_95 : decode cX7_nearest 95 = .ok (.istore_n 3, 1) := by decide +kernel
theorem dX7_nearest_96 : decode cX7_nearest 96 = .ok (.iload 8, 2) := by decide +kernel
theorem dX7_nearest_98 : decode cX7_nearest 98 = .ok (.istore 4, 2) := by decide +kernel
theorem dX7_nearest_100 : decode cX7_nearest 100 = .ok (.iinc 5 1, 3) := by decide +kernel
theorem dX7_nearest_103 : decode cX7_nearest 103 = .ok (.goto (-95), 3) := by decide +kernel
theorem dX7_nearest_106 : decode cX7_nearest 106 = .ok (.iload_n 3, 1) := by decide +kernel
theorem dX7_nearest_107 : decode cX7_nearest 107 = .ok (.ireturn, 1) := by decide +kernel
theorem dX7_follow_0 : decode cX7_follow 0 = .ok (.aload_n 1, 1) := by decide +kernel
theorem dX7_follow_1 : decode cX7_follow 1 = .ok (.iconst 0, 1) := by decide +kernel
theorem dX7_follow_2 : decode cX7_follow 2 = .ok (.invokevirtual 25, 3) := by decide +kernel
theorem dX7_follow_5 : decode cX7_follow 5 = .ok (.astore 5, 2) := by decide +kernel
theorem dX7_follow_7 : decode cX7_follow 7 = .ok (.aload_n 1, 1) := by decide +kernel
theorem dX7_follow_8 : decode cX7_follow 8 = .ok (.iconst 1, 1) := by decide +kernel
theorem dX7_follow_9 : decode cX7_follow 9 = .ok (.invokevirtual 25, 3) := by decide +kernel
theorem dX7_follow_12 : decode cX7_follow 12 = .ok (.astore 6, 2) := by decide +kernel
theorem dX7_follow_14 : decode cX7_follow 14 = .ok (.aload 5, 2) := by decide +kernel
theorem dX7_follow_16 : decode cX7_follow 16 = .ok (.iload_n 3, 1) := by decide +kernel
theorem dX7_follow_17 : decode cX7_follow 17 = .ok (.invokevirtual 37, 3) := by decide +kernel
theorem dX7_follow_20 : decode cX7_follow 20 = .ok (.istore 7, 2) := by decide +kernel
theorem dX7_follow_22 : decode cX7_follow 22 = .ok (.aload 5, 2) := by decide +kernel
theorem dX7_follow_24 : decode cX7_follow 24 = .ok (.iload_n 3, 1) := by decide +kernel
theorem dX7_follow_25 : decode cX7_follow 25 = .ok (.invokevirtual 43, 3) := by decide +kernel
theorem dX7_follow_28 : decode cX7_follow 28 = .ok (.istore 8, 2) := by decide +kernel
theorem dX7_follow_30 : decode cX7_follow 30 = .ok (.iload 4, 2) := by decide +kernel
theorem dX7_follow_32 : decode cX7_follow 32 = .ok (.iconst (-1), 1) := by decide +kernel
theorem dX7_follow_33 : decode cX7_follow 33 = .ok (.if_icmp .eq 52, 3) := by decide +kernel
theorem dX7_follow_36 : decode cX7_follow 36 = .ok (.aload_n 2, 1) := by decide +kernel
theorem dX7_follow_37 : decode cX7_follow 37 = .ok (.iconst 0, 1) := by decide +kernel
theorem dX7_follow_38 : decode cX7_follow 38 = .ok (.iload 4, 2) := by decide +kernel
theorem dX7_follow_40 : decode cX7_follow 40 = .ok (.invokevirtual 31, 3) := by decide +kernel
theorem dX7_follow_43 : decode cX7_follow 43 = .ok (.istore 9, 2) := by decide +kernel
theorem dX7_follow_45 : decode cX7_follow 45 = .ok (.iload 7, 2) := by decide +kernel
theorem dX7_follow_47 : decode cX7_follow 47 = .ok (.aload 6, 2) := by decide +kernel
theorem dX7_follow_49 : decode cX7_follow 49 = .ok (.iload 9, 2) := by decide +kernel
theorem dX7_follow_51 : decode cX7_follow 51 = .ok (.invokevirtual 37, 3) := by decide +kernel
theorem dX7_follow_54 : decode cX7_follow 54 = .ok (.aload 5, 2) := by decide +kernel
theorem dX7_follow_56 : decode cX7_follow 56 = .ok (.iload 4, 2) := by decide +kernel
theorem dX7_follow_58 : decode cX7_follow 58 = .ok (.invokevirtual 37, 3) := by decide +kernel
theorem dX7_follow_61 : decode cX7_follow 61 = .ok (.isub, 1) := by decide +kernel
theorem dX7_follow_62 : decode cX7_follow 62 = .ok (.iadd, 1) := by decide +kernel
theorem dX7_follow_63 : decode cX7_follow 63 = .ok (.istore 7, 2) := by decide +kernel
theorem dX7_follow_65 : decode cX7_follow 65 = .ok (.iload 8, 2) := by decide +kernel
theorem dX7_follow_67 : decode cX7_follow 67 = .ok (.aload 6, 2) := by decide +kernel
theorem dX7_follow_69 : decode cX7_follow 69 = .ok (.iload 9, 2) := by decide +kernel
theorem dX7_follow_71 : decode cX7_follow 71 = .ok (.invokevirtual 43, 3) := by decide +kernel
theorem dX7_follow_74 : decode cX7_follow 74 = .ok (.aload 5, 2) := by decide +kernel
theorem dX7_follow_76 : decode cX7_follow 76 = .ok (.iload 4, 2) := by decide +kernel
theorem dX7_follow_78 : decode cX7_follow 78 = .ok (.invokevirtual 43, 3) := by decide +kernel
theorem dX7_follow_81 : decode cX7_follow 81 = .ok (.isub, 1) := by decide +kernel
theorem dX7_follow_82 : decode cX7_follow 82 = .ok (.iadd, 1) := by decide +kernel
theorem dX7_follow_83 : decode cX7_follow 83 = .ok (.istore 8, 2) := by decide +kernel
theorem dX7_follow_85 : decode cX7_follow 85 = .ok (.aload_n 0, 1) := by decide +kernel
theorem dX7_follow_86 : decode cX7_follow 86 = .ok (.iload 7, 2) := by decide +kernel
theorem dX7_follow_88 : decode cX7_follow 88 = .ok (.iload 8, 2) := by decide +kernel
theorem dX7_follow_90 : decode cX7_follow 90 = .ok (.iconst 1, 1) := by decide +kernel
theorem dX7_follow_91 : decode cX7_follow 91 = .ok (.invokevirtual 46, 3) := by decide +kernel
theorem dX7_follow_94 : decode cX7_follow 94 = .ok (.return_, 1) := by decide +kernel
theorem dX7_reduced_0 : decode cX7_reduced 0 = .ok (.iload_n 1, 1) := by decide +kernel
theorem dX7_reduced_1 : decode cX7_reduced 1 = .ok (.invokestatic 73, 3) := by decide +kernel
theorem dX7_reduced_4 : decode cX7_reduced 4 = .ok (.istore_n 3, 1) := by decide +kernel
theorem dX7_reduced_5 : decode cX7_reduced 5 = .ok (.iload_n 2, 1) := by decide +kernel
theorem dX7_reduced_6 : decode cX7_reduced 6 = .ok (.istore 4, 2) := by decide +kernel
theorem dX7_reduced_8 : decode cX7_reduced 8 = .ok (.iconst 0, 1) := by decide +kernel
theorem dX7_reduced_9 : decode cX7_reduced 9 = .ok (.istore 5, 2) := by decide +kernel
theorem dX7_reduced_11 : decode cX7_reduced 11 = .ok (.iload 5, 2) := by decide +kernel
theorem dX7_reduced_13 : decode cX7_reduced 13 = .ok (.bipush 64, 2) := by decide +kernel
theorem dX7_reduced_15 : decode cX7_reduced 15 = .ok (.if_icmp .ge 27, 3) := by decide +kernel
theorem dX7_reduced_18 : decode cX7_reduced 18 = .ok (.iload 4, 2) := by decide +kernel
theorem dX7_reduced_20 : decode cX7_reduced 20 = .ok (.ifCond .eq 22, 3) := by decide +kernel
theorem dX7_reduced_23 : decode cX7_reduced 23 = .ok (.iload_n 3, 1) := by decide +kernel
theorem dX7_reduced_24 : decode cX7_reduced 24 = .ok (.iload 4, 2) := by decide +kernel
theorem dX7_reduced_26 : decode cX7_reduced 26 = .ok (.irem, 1) := by decide +kernel
theorem dX7_reduced_27 : decode cX7_reduced 27 = .ok (.istore 6, 2) := by decide +kernel
theorem dX7_reduced_29 : decode cX7_reduced 29 = .ok (.iload 4, 2) := by decide +kernel
theorem dX7_reduced_31 : decode cX7_reduced 31 = .ok (.istore_n 3, 1) := by decide +kernel
theorem dX7_reduced_32 : decode cX7_reduced 32 = .ok (.iload 6, 2) := by decide +kernel
theorem dX7_reduced_34 : decode cX7_reduced 34 = .ok (.istore 4, 2) := by decide +kernel
theorem dX7_reduced_36 : decode cX7_reduced 36 = .ok (.iinc 5 1, 3) := by decide +kernel
theorem dX7_reduced_39 : decode cX7_reduced 39 = .ok (.goto (-28), 3) := by decide +kernel
theorem dX7_reduced_42 : decode cX7_reduced 42 = .ok (.iload_n 3, 1) := by decide +kernel
theorem dX7_reduced_43 : decode cX7_reduced 43 = .ok (.ifCond .le 9, 3) := by decide +kernel
theorem dX7_reduced_46 : decode cX7_reduced 46 = .ok (.iload_n 0, 1) := by decide +kernel
theorem dX7_reduced_47 : decode cX7_reduced 47 = .ok (.iload_n 3, 1) := by decide +kernel
theorem dX7_reduced_48 : decode cX7_reduced 48 = .ok (.idiv, 1) := by decide +kernel
theorem dX7_reduced_49 : decode cX7_reduced 49 = .ok (.goto 4, 3) := by decide +kernel
theorem dX7_reduced_52 : decode cX7_reduced 52 = .ok (.iload_n 0, 1) := by decide +kernel
theorem dX7_reduced_53 : decode cX7_reduced 53 = .ok (.ireturn, 1) := by decide +kernel
theorem dX8_init_0 : decode cX8_init 0 = .ok (.aload_n 0, 1) := by decide +kernel
theorem dX8_init_1 : decode cX8_init 1 = .ok (.invokespecial 3, 3) := by decide +kernel
theorem dX8_init_4 : decode cX8_init 4 = .ok (.aload_n 0, 1) := by decide +kernel
theorem dX8_init_5 : decode cX8_init 5 = .ok (.iconst 4, 1) := by decide +kernel
theorem dX8_init_6 : decode cX8_init 6 = .ok (.newarray .int, 2) := by decide +kernel
theorem dX8_init_8 : decode cX8_init 8 = .ok (.putfield 9, 3) := by decide +kernel
theorem dX8_init_11 : decode cX8_init 11 = .ok (.return_, 1) := by decide +kernel
theorem dX8_isFound_0 : decode cX8_isFound 0 = .ok (.aload_n 0, 1) := by decide +kernel
theorem dX8_isFound_1 : decode cX8_isFound 1 = .ok (.getfield 15, 3) := by decide +kernel
theorem dX8_isFound_4 : decode cX8_isFound 4 = .ok (.ifCond .le 7, 3) := by decide +kernel
theorem dX8_isFound_7 : decode cX8_isFound 7 = .ok (.iconst 1, 1) := by decide +kernel
theorem dX8_isFound_8 : decode cX8_isFound 8 = .ok (.goto 4, 3) := by decide +kernel
theorem dX8_isFound_11 : decode cX8_isFound 11 = .ok (.iconst 0, 1) := by decide +kernel
theorem dX8_isFound_12 : decode cX8_isFound 12 = .ok (.ireturn, 1) := by decide +kernel
theorem dX8_streets_0 : decode cX8_streets 0 = .ok (.aload_n 0, 1) := by decide +kernel
theorem dX8_streets_1 : decode cX8_streets 1 = .ok (.getfield 15, 3) := by decide +kernel
theorem dX8_streets_4 : decode cX8_streets 4 = .ok (.ireturn, 1) := by decide +kernel
theorem dX8_stopAt_0 : decode cX8_stopAt 0 = .ok (.aload_n 0, 1) := by decide +kernel
theorem dX8_stopAt_1 : decode cX8_stopAt 1 = .ok (.invokevirtual 19, 3) := by decide +kernel
theorem dX8_stopAt_4 : decode cX8_stopAt 4 = .ok (.ifCond .eq 24, 3) := by decide +kernel
theorem dX8_stopAt_7 : decode cX8_stopAt 7 = .ok (.iload_n 1, 1) := by decide +kernel
theorem dX8_stopAt_8 : decode cX8_stopAt 8 = .ok (.iconst 0, 1) := by decide +kernel
theorem dX8_stopAt_9 : decode cX8_stopAt 9 = .ok (.aload_n 0, 1) := by decide +kernel
theorem dX8_stopAt_10 : decode cX8_stopAt 10 = .ok (.getfield 15, 3) := by decide +kernel
theorem dX8_stopAt_13 : decode cX8_stopAt 13 = .ok (.invokestatic 23, 3) := by decide +kernel
theorem dX8_stopAt_16 : decode cX8_stopAt 16 = .ok (.ifCond .eq 12, 3) := by decide +kernel
theorem dX8_stopAt_19 : decode cX8_stopAt 19 = .ok (.aload_n 0, 1) := by decide +kernel
theorem dX8_stopAt_20 : decode cX8_stopAt 20 = .ok (.getfield 9, 3) := by decide +kernel
theorem dX8_stopAt_23 : decode cX8_stopAt 23 = .ok (.iload_n 1, 1) := by decide +kernel
theorem dX8_stopAt_24 : decode cX8_stopAt 24 = .ok (.iaload, 1) := by decide +kernel
theorem dX8_stopAt_25 : decode cX8_stopAt 25 = .ok (.goto 5, 3) := by decide +kernel
theorem dX8_stopAt_28 : decode cX8_stopAt 28 = .ok (.bipush (-4), 2) := by decide +kernel
theorem dX8_stopAt_30 : decode cX8_stopAt 30 = .ok (.ireturn, 1) := by decide +kernel
theorem dX8_find_0 : decode cX8_find 0 = .ok (.aload_n 0, 1) := by decide +kernel
theorem dX8_find_1 : decode cX8_find 1 = .ok (.iconst 0, 1) := by decide +kernel
theorem dX8_find_2 : decode cX8_find 2 = .ok (.putfield 15, 3) := by decide +kernel
theorem dX8_find_5 : decode cX8_find 5 = .ok (.aload_n 1, 1) := by decide +kernel
theorem dX8_find_6 : decode cX8_find 6 = .ok (.iload_n 2, 1) := by decide +kernel
theorem dX8_find_7 : decode cX8_find 7 = .ok (.invokevirtual 27, 3) := by decide +kernel
theorem dX8_find_10 : decode cX8_find 10 = .ok (.ifCond .eq 11, 3) := by decide +kernel
theorem dX8_find_13 : decode cX8_find 13 = .ok (.aload_n 1, 1) := by decide +kernel
theorem dX8_find_14 : decode cX8_find 14 = .ok (.iload_n 3, 1) := by decide +kernel
theorem dX8_find_15 : decode cX8_find 15 = .ok (.invokevirtual 27, 3) := by decide +kernel
theorem dX8_find_18 : decode cX8_find 18 = .ok (.ifCond .ne 4, 3) := by decide +kernel
theorem dX8_find_21 : decode cX8_find 21 = .ok (.return_, 1) := by decide +kernel
theorem dX8_find_22 : decode cX8_find 22 = .ok (.aload_n 0, 1) := by decide +kernel
theorem dX8_find_23 : decode cX8_find 23 = .ok (.getfield 9, 3) := by decide +kernel
theorem dX8_find_26 : decode cX8_find 26 = .ok (.iconst 0, 1) := by decide +kernel
theorem dX8_find_27 : decode cX8_find 27 = .ok (.iload_n 2, 1) := by decide +kernel
theorem dX8_find_28 : decode cX8_find 28 = .ok (.iastore, 1) := by decide +kernel
theorem dX8_find_29 : decode cX8_find 29 = .ok (.aload_n 1, 1) := by decide +kernel
theorem dX8_find_30 : decode cX8_find 30 = .ok (.iload_n 2, 1) := by decide +kernel
theorem dX8_find_31 : decode cX8_find 31 = .ok (.iload_n 3, 1) := by decide +kernel
theorem dX8_find_32 : decode cX8_find 32 = .ok (.invokevirtual 33, 3) := by decide +kernel
theorem dX8_find_35 : decode cX8_find 35 = .ok (.iconst (-1), 1) := by decide +kernel
theorem dX8_find_36 : decode cX8_find 36 = .ok (.if_icmp .eq 18, 3) := by decide +kernel
theorem dX8_find_39 : decode cX8_find 39 = .ok (.aload_n 0, 1) := by decide +kernel
theorem dX8_find_40 : decode cX8_find 40 = .ok (.getfield 9, 3) := by decide +kernel
theorem dX8_find_43 : decode cX8_find 43 = .ok (.iconst 1, 1) := by decide +kernel
theorem dX8_find_44 : decode cX8_find 44 = .ok (.iload_n 3, 1) := by decide +kernel
theorem dX8_find_45 : decode cX8_find 45 = .ok (.iastore, 1) := by decide +kernel
theorem dX8_find_46 : decode cX8_find 46 = .ok (.aload_n 0, 1) := by decide +kernel
theorem dX8_find_47 : decode cX8_find 47 = .ok (.iconst 1, 1) := by decide +kernel
theorem dX8_find_48 : decode cX8_find 48 = .ok (.putfield 15, 3) := by decide +kernel
theorem dX8_find_51 : decode cX8_find 51 = .ok (.goto 50, 3) := by decide +kernel
theorem dX8_find_54 : decode cX8_find 54 = .ok (.aload_n 0, 1) := by decide +kernel
theorem dX8_find_55 : decode cX8_find 55 = .ok (.aload_n 1, 1) := by decide +kernel
theorem dX8_find_56 : decode cX8_find 56 = .ok (.iload_n 2, 1) := by decide +kernel
theorem dX8_find_57 : decode cX8_find 57 = .ok (.iload_n 3, 1) := by decide +kernel
theorem dX8_find_58 : decode cX8_find 58 = .ok (.invokevirtual 37, 3) := by decide +kernel
theorem dX8_find_61 : decode cX8_find 61 = .ok (.ifCond .eq 18, 3) := by decide +kernel
theorem dX8_find_64 : decode cX8_find 64 = .ok (.aload_n 0, 1) := by decide +kernel
theorem dX8_find_65 : decode cX8_find 65 = .ok (.getfield 9, 3) := by decide +kernel
theorem dX8_find_68 : decode cX8_find 68 = .ok (.iconst 2, 1) := by decide +kernel
theorem dX8_find_69 : decode cX8_find 69 = .ok (.iload_n 3, 1) := by decide +kernel
theorem dX8_find_70 : decode cX8_find 70 = .ok (.iastore, 1) := by decide +kernel
theorem dX8_find_71 : decode cX8_find 71 = .ok (.aload_n 0, 1) := by decide +kernel
theorem dX8_find_72 : decode cX8_find 72 = .ok (.iconst 2, 1) := by decide +kernel
theorem dX8_find_73 : decode cX8_find 73 = .ok (.putfield 15, 3) := by decide +kernel
theorem dX8_find_76 : decode cX8_find 76 = .ok (.goto 25, 3) := by decide +kernel
theorem dX8_find_79 : decode cX8_find 79 = .ok (.aload_n 0, 1) := by decide +kernel
theorem dX8_find_80 : decode cX8_find 80 = .ok (.aload_n 1, 1) := by decide +kernel
theorem dX8_find_81 : decode cX8_find 81 = .ok (.iload_n 2, 1) := by decide +kernel
theorem dX8_find_82 : decode cX8_find 82 = .ok (.iload_n 3, 1) := by decide +kernel
theorem dX8_find_83 : decode cX8_find 83 = .ok (.invokevirtual 41, 3) := by decide +kernel
theorem dX8_find_86 : decode cX8_find 86 = .ok (.ifCond .eq 15, 3) := by decide +kernel
theorem dX8_find_89 : decode cX8_find 89 = .ok (.aload_n 0, 1) := by decide +kernel
theorem dX8_find_90 : decode cX8_find 90 = .ok (.getfield 9, 3) := by decide +kernel
theorem dX8_find_93 : decode cX8_find 93 = .ok (.iconst 3, 1) := by decide +kernel
theorem dX8_find_94 : decode cX8_find 94 = .ok (.iload_n 3, 1) := by decide +kernel
theorem dX8_find_95 : decode cX8_find 95 = .ok (.iastore, 1) := by decide +kernel
theorem dX8_find_96 : decode cX8_find 96 = .ok (.aload_n 0, 1) := by decide +kernel
theorem dX8_find_97 : decode cX8_find 97 = .ok (.iconst 3, 1) := by decide +kernel
theorem dX8_find_98 : decode cX8_find 98 = .ok (.putfield 15, 3) := by decide +kernel
theorem dX8_find_101 : decode cX8_find 101 = .ok (.return_, 1) := by decide +kernel
theorem dX8_commonName_0 : decode cX8_commonName 0 = .ok (.iconst 0, 1) := by decide +kernel
theorem dX8_commonName_1 : decode cX8_commonName 1 = .ok (.istore_n 2, 1) := by decide +kernel
theorem dX8_commonName_2 : decode cX8_commonName 2 = .ok (.iconst 0, 1) := by decide +kernel
theorem dX8_commonName_3 : decode cX8_commonName 3 = .ok (.istore_n 3, 1) := by decide +kernel
theorem dX8_commonName_4 : decode cX8_commonName 4 = .ok (.iload_n 3, 1) := by decide +kernel
theorem dX8_commonName_5 : decode cX8_commonName 5 = .ok (.aload_n 0, 1) := by decide +kernel
theorem dX8_commonName_6 : decode cX8_commonName 6 = .ok (.getfield 15, 3) := by decide +kernel
theorem dX8_commonName_9 : decode cX8_commonName 9 = .ok (.if_icmp .ge 59, 3) := by decide +kernel
theorem dX8_commonName_12 : decode cX8_commonName 12 = .ok (.iload_n 3, 1) := by decide +kernel
theorem dX8_commonName_13 : decode cX8_commonName 13 = .ok (.iconst 1, 1) := by decide +kernel
theorem dX8_commonName_14 : decode cX8_commonName 14 = .ok (.iadd, 1) := by decide +kernel
theorem dX8_commonName_15 : decode cX8_commonName 15 = .ok (.aload_n 0, 1) := by decide +kernel
theorem dX8_commonName_16 : decode cX8_commonName 16 = .ok (.getfield 9, 3) := by decide +kernel
theorem dX8_commonName_19 : decode cX8_commonName 19 = .ok (.arraylength, 1) := by decide +kernel
theorem dX8_commonName_20 : decode cX8_commonName 20 = .ok (.if_icmp .ge 48, 3) := by decide +kernel
theorem dX8_commonName_23 : decode cX8_commonName 23 = .ok (.aload_n 1, 1) := by decide +kernel
theorem dX8_commonName_24 : decode cX8_commonName 24 = .ok (.aload_n 1, 1) := by decide +kernel
theorem dX8_commonName_25 : decode cX8_commonName 25 = .ok (.aload_n 0, 1) := by decide +kernel
theorem dX8_commonName_26 : decode cX8_commonName 26 = .ok (.getfield 9, 3) := by decide +kernel
theorem dX8_commonName_29 : decode cX8_commonName 29 = .ok (.iload_n 3, 1) := by decide +kernel
theorem dX8_commonName_30 : decode cX8_commonName 30 = .ok (.iaload, 1) := by decide +kernel
theorem dX8_commonName_31 : decode cX8_commonName 31 = .ok (.aload_n 0, 1) := by decide +kernel
theorem dX8_commonName_32 : decode cX8_commonName 32 = .ok (.getfield 9, 3) := by decide +kernel
theorem dX8_commonName_35 : decode cX8_commonName 35 = .ok (.iload_n 3, 1) := by decide +kernel
theorem dX8_commonName_36 : decode cX8_commonName 36 = .ok (.iconst 1, 1) := by decide +kernel
theorem dX8_commonName_37 : decode cX8_commonName 37 = .ok (.iadd, 1) := by decide +kernel
theorem dX8_commonName_38 : decode cX8_commonName 38 = .ok (.iaload, 1) := by decide +kernel
theorem dX8_commonName_39 : decode cX8_commonName 39 = .ok (.invokevirtual 33, 3) := by decide +kernel
theorem dX8_commonName_42 : decode cX8_commonName 42 = .ok (.invokevirtual 44, 3) := by decide +kernel
theorem dX8_commonName_45 : decode cX8_commonName 45 = .ok (.istore 4, 2) := by decide +kernel
theorem dX8_commonName_47 : decode cX8_commonName 47 = .ok (.iload_n 3, 1) := by decide +kernel
theorem dX8_commonName_48 : decode cX8_commonName 48 = .ok (.ifCond .le 11, 3) := by decide +kernel
theorem dX8_commonName_51 : decode cX8_commonName 51 = .ok (.iload 4, 2) := by decide +kernel
theorem dX8_commonName_53 : decode cX8_commonName 53 = .ok (.iload_n 2, 1) := by decide +kernel
theorem dX8_commonName_54 : decode cX8_commonName 54 = .ok (.if_icmp .eq 5, 3) := by decide +kernel
theorem dX8_commonName_57 : decode cX8_commonName 57 = .ok (.iconst 0, 1) := by decide +kernel
theorem dX8_commonName_58 : decode cX8_commonName 58 = .ok (.ireturn, 1) := by decide +kernel
theorem dX8_commonName_59 : decode cX8_commonName 59 = .ok (.iload 4, 2) := by decide +kernel
theorem dX8_commonName_61 : decode cX8_commonName 61 = .ok (.istore_n 2, 1) := by decide +kernel
theorem dX8_commonName_62 : decode cX8_commonName 62 = .ok (.iinc 3 1, 3) := by decide +kernel
theorem dX8_commonName_65 : decode cX8_commonName 65 = .ok (.goto (-61), 3) := by decide +kernel
theorem dX8_commonName_68 : decode cX8_commonName 68 = .ok (.iload_n 2, 1) := by decide +kernel
theorem dX8_commonName_69 : decode cX8_commonName 69 = .ok (.ireturn, 1) := by decide +kernel
theorem dX8_findOne_0 : decode cX8_findOne 0 = .ok (.iconst 0, 1) := by decide +kernel
theorem dX8_findOne_1 : decode cX8_findOne 1 = .ok (.istore 4, 2) := by decide +kernel
theorem dX8_findOne_3 : decode cX8_findOne 3 = .ok (.iload 4, 2) := by decide +kernel
theorem dX8_findOne_5 : decode cX8_findOne 5 = .ok (.aload_n 1, 1) := by decide +kernel
theorem dX8_findOne_6 : decode cX8_findOne 6 = .ok (.invokevirtual 48, 3) := by decide +kernel
theorem dX8_findOne_9 : decode cX8_findOne 9 = .ok (.if_icmp .ge 41, 3) := by decide +kernel
theorem dX8_findOne_12 : decode cX8_findOne 12 = .ok (.aload_n 1, 1) := by decide +kernel
theorem dX8_findOne_13 : decode cX8_findOne 13 = .ok (.iload_n 2, 1) := by decide +kernel
theorem dX8_findOne_14 : decode cX8_findOne 14 = .ok (.iload 4, 2) := by decide +kernel
theorem dX8_findOne_16 : decode cX8_findOne 16 = .ok (.invokevirtual 33, 3) := by decide +kernel
theorem dX8_findOne_19 : decode cX8_findOne 19 = .ok (.iconst (-1), 1) := by decide +kernel
theorem dX8_findOne_20 : decode cX8_findOne 20 = .ok (.if_icmp .eq 24, 3) := by decide +kernel
theorem dX8_findOne_23 : decode cX8_findOne 23 = .ok (.aload_n 1, 1) := by decide +kernel
theorem dX8_findOne_24 : decode cX8_findOne 24 = .ok (.iload 4, 2) := by decide +kernel
theorem dX8_findOne_26 : decode cX8_findOne 26 = .ok (.iload_n 3, 1) := by decide +kernel
theorem dX8_findOne_27 : decode cX8_findOne 27 = .ok (.invokevirtual 33, 3) := by decide +kernel
theorem dX8_findOne_30 : decode cX8_findOne 30 = .ok (.iconst (-1), 1) := by decide +kernel
theorem dX8_findOne_31 : decode cX8_findOne 31 = .ok (.if_icmp .eq 13, 3) := by decide +kernel
theorem dX8_findOne_34 : decode cX8_findOne 34 = .ok (.aload_n 0, 1) := by decide +kernel
theorem dX8_findOne_35 : decode cX8_findOne 35 = .ok (.getfield 9, 3) := by decide +kernel
theorem dX8_findOne_38 : decode cX8_findOne 38 = .ok (.iconst 1, 1) := by decide +kernel
theorem dX8_findOne_39 : decode cX8_findOne 39 = .ok (.iload 4, 2) := by decide +kernel
theorem dX8_findOne_41 : decode cX8_findOne 41 = .ok (.iastore, 1) := by decide +kernel
theorem dX8_findOne_42 : decode cX8_findOne 42 = .ok (.iconst 1, 1) := by decide +kernel
theorem dX8_findOne_43 : decode cX8_findOne 43 = .ok (.ireturn, 1) := by decide +kernel
theorem dX8_findOne_44 : decode cX8_findOne 44 = .ok (.iinc 4 1, 3) := by decide +kernel
theorem dX8_findOne_47 : decode cX8_findOne 47 = .ok (.goto (-44), 3) := by decide +kernel
theorem dX8_findOne_50 : decode cX8_findOne 50 = .ok (.iconst 0, 1) := by decide +kernel
theorem dX8_findOne_51 : decode cX8_findOne 51 = .ok (.ireturn, 1) := by decide +kernel
theorem dX8_findTwo_0 : decode cX8_findTwo 0 = .ok (.iconst 0, 1) := by decide +kernel
theorem dX8_findTwo_1 : decode cX8_findTwo 1 = .ok (.istore 4, 2) := by decide +kernel
theorem dX8_findTwo_3 : decode cX8_findTwo 3 = .ok (.iload 4, 2) := by decide +kernel
theorem dX8_findTwo_5 : decode cX8_findTwo 5 = .ok (.aload_n 1, 1) := by decide +kernel
theorem dX8_findTwo_6 : decode cX8_findTwo 6 = .ok (.invokevirtual 48, 3) := by decide +kernel
theorem dX8_findTwo_9 : decode cX8_findTwo 9 = .ok (.if_icmp .ge 91, 3) := by decide +kernel
theorem dX8_findTwo_12 : decode cX8_findTwo 12 = .ok (.iconst 0, 1) := by decide +kernel
theorem dX8_findTwo_13 : decode cX8_findTwo 13 = .ok (.istore 5, 2) := by decide +kernel
theorem dX8_findTwo_15 : decode cX8_findTwo 15 = .ok (.iload 5, 2) := by decide +kernel
theorem dX8_findTwo_17 : decode cX8_findTwo 17 = .ok (.aload_n 1, 1) := by decide +kernel
theorem dX8_findTwo_18 : decode cX8_findTwo 18 = .ok (.invokevirtual 48, 3) := by decide +kernel
theorem dX8_findTwo_21 : decode cX8_findTwo 21 = .ok (.if_icmp .ge 73, 3) := by decide +kernel
theorem dX8_findTwo_24 : decode cX8_findTwo 24 = .ok (.aload_n 1, 1) := by decide +kernel
theorem dX8_findTwo_25 : decode cX8_findTwo 25 = .ok (.iload_n 2, 1) := by decide +kernel
theorem dX8_findTwo_26 : decode cX8_findTwo 26 = .ok (.iload 4, 2) := by decide +kernel
theorem dX8_findTwo_28 : decode cX8_findTwo 28 = .ok (.invokevirtual 33, 3) := by decide +kernel
theorem dX8_findTwo_31 : decode cX8_findTwo 31 = .ok (.iconst (-1), 1) := by decide +kernel
theorem dX8_findTwo_32 : decode cX8_findTwo 32 = .ok (.if_icmp .eq 30, 3) := by decide +kernel
theorem dX8_findTwo_35 : decode cX8_findTwo 35 = .ok (.aload_n 1, 1) := by decide +kernel
theorem dX8_findTwo_36 : decode cX8_findTwo 36 = .ok (.iload 4, 2) := by decide +kernel
theorem dX8_findTwo_38 : decode cX8_findTwo 38 = .ok (.iload 5, 2) := by decide +kernel
theorem dX8_findTwo_40 : decode cX8_findTwo 40 = .ok (.invokevirtual 33, 3) := by decide +kernel
theorem dX8_findTwo_43 : decode cX8_findTwo 43 = .ok (.iconst (-1), 1) := by decide +kernel
theorem dX8_findTwo_44 : decode cX8_findTwo 44 = .ok (.if_icmp .eq 18, 3) := by decide +kernel
theorem dX8_findTwo_47 : decode cX8_findTwo 47 = .ok (.aload_n 1, 1) := by decide +kernel
theorem dX8_findTwo_48 : decode cX8_findTwo 48 = .ok (.iload 5, 2) := by decide +kernel
theorem dX8_findTwo_50 : decode cX8_findTwo 50 = .ok (.iload_n 3, 1) := by decide +kernel
theorem dX8_findTwo_51 : decode cX8_findTwo 51 = .ok (.invokevirtual 33, 3) := by decide +kernel
theorem dX8_findTwo_54 : decode cX8_findTwo 54 = .ok (.iconst (-1), 1) := by decide +kernel
theorem dX8_findTwo_55 : decode cX8_findTwo 55 = .ok (.if_icmp .eq 7, 3) := by decide +kernel
theorem dX8_findTwo_58 : decode cX8_findTwo 58 = .ok (.iconst 1, 1) := by decide +kernel
theorem dX8_findTwo_59 : decode cX8_findTwo 59 = .ok (.goto 4, 3) := by decide +kernel
theorem dX8_findTwo_62 : decode cX8_findTwo 62 = .ok (.iconst 0, 1) := by decide +kernel
theorem dX8_findTwo_63 : decode cX8_findTwo 63 = .ok (.istore 6, 2) := by decide +kernel
theorem dX8_findTwo_65 : decode cX8_findTwo 65 = .ok (.iload 6, 2) := by decide +kernel
theorem dX8_findTwo_67 : decode cX8_findTwo 67 = .ok (.ifCond .eq 21, 3) := by decide +kernel
theorem dX8_findTwo_70 : decode cX8_findTwo 70 = .ok (.aload_n 0, 1) := by decide +kernel
theorem dX8_findTwo_71 : decode cX8_findTwo 71 = .ok (.getfield 9, 3) := by decide +kernel
theorem dX8_findTwo_74 : decode cX8_findTwo 74 = .ok (.iconst 1, 1) := by decide +kernel
theorem dX8_findTwo_75 : decode cX8_findTwo 75 = .ok (.iload 4, 2) := by decide +kernel
theorem dX8_findTwo_77 : decode cX8_findTwo 77 = .ok (.iastore, 1) := by decide +kernel
theorem dX8_findTwo_78 : decode cX8_findTwo 78 = .ok (.aload_n 0, 1) := by decide +kernel
theorem dX8_findTwo_79 : decode cX8_findTwo 79 = .ok (.getfield 9, 3) := by decide +kernel
theorem dX8_findTwo_82 : decode cX8_findTwo 82 = .ok (.iconst 2, 1) := by decide +kernel
theorem dX8_findTwo_83 : decode cX8_findTwo 83 = .ok (.iload 5, 2) := by decide +kernel
theorem dX8_findTwo_85 : decode cX8_findTwo 85 = .ok (.iastore, 1) := by decide +kernel
theorem dX8_findTwo_86 : decode cX8_findTwo 86 = .ok (.iconst 1, 1) := by decide +kernel
theorem dX8_findTwo_87 : decode cX8_findTwo 87 = .ok (.ireturn, 1) := by decide +kernel
theorem dX8_findTwo_88 : decode cX8_findTwo 88 = .ok (.iinc 5 1, 3) := by decide +kernel
theorem dX8_findTwo_91 : decode cX8_findTwo 91 = .ok (.goto (-76), 3) := by decide +kernel
theorem dX8_findTwo_94 : decode cX8_findTwo 94 = .ok (.iinc 4 1, 3) := by decide +kernel
theorem dX8_findTwo_97 : decode cX8_findTwo 97 = .ok (.goto (-94), 3) := by decide +kernel
theorem dX8_findTwo_100 : decode cX8_findTwo 100 = .ok (.iconst 0, 1) := by decide +kernel
theorem dX8_findTwo_101 : decode cX8_findTwo 101 = .ok (.ireturn, 1) := by decide +kernel
end
section
theorem dX9_init_0 : decode cX9_init 0 = .ok (.aload_n 0, 1) := by decide +kernel
theorem dX9_init_1 : decode cX9_init 1 = .ok (.invokespecial 1, 3) := by decide +kernel
theorem dX9_init_4 : decode cX9_init 4 = .ok (.aload_n 0, 1) := by decide +kernel
theorem dX9_init_5 : decode cX9_init 5 = .ok (.new 7, 3) := by decide +kernel
theorem dX9_init_8 : decode cX9_init 8 = .ok (.dup, 1) := by decide +kernel
theorem dX9_init_9 : decode cX9_init 9 = .ok (.invokespecial 9, 3) := by decide +kernel
theorem dX9_init_12 : decode cX9_init 12 = .ok (.putfield 10, 3) := by decide +kernel
theorem dX9_init_15 : decode cX9_init 15 = .ok (.aload_n 0, 1) := by decide +kernel
theorem dX9_init_16 : decode cX9_init 16 = .ok (.new 16, 3) := by decide +kernel
theorem dX9_init_19 : decode cX9_init 19 = .ok (.dup, 1) := by decide +kernel
theorem dX9_init_20 : decode cX9_init 20 = .ok (.invokespecial 18, 3) := by decide +kernel
theorem dX9_init_23 : decode cX9_init 23 = .ok (.putfield 19, 3) := by decide +kernel
theorem dX9_init_26 : decode cX9_init 26 = .ok (.aload_n 0, 1) := by decide +kernel
theorem dX9_init_27 : decode cX9_init 27 = .ok (.new 23, 3) := by decide +kernel
theorem dX9_init_30 : decode cX9_init 30 = .ok (.dup, 1) := by decide +kernel
theorem dX9_init_31 : decode cX9_init 31 = .ok (.invokespecial 25, 3) := by decide +kernel
theorem dX9_init_34 : decode cX9_init 34 = .ok (.putfield 26, 3) := by decide +kernel
theorem dX9_init_37 : decode cX9_init 37 = .ok (.aload_n 0, 1) := by decide +kernel
theorem dX9_init_38 : decode cX9_init 38 = .ok (.new 30, 3) := by decide +kernel
theorem dX9_init_41 : decode cX9_init 41 = .ok (.dup, 1) := by decide +kernel
theorem dX9_init_42 : decode cX9_init 42 = .ok (.bipush 8, 2) := by decide +kernel
theorem dX9_init_44 : decode cX9_init 44 = .ok (.invokespecial 32, 3) := by decide +kernel
theorem dX9_init_47 : decode cX9_init 47 = .ok (.putfield 35, 3) := by decide +kernel
theorem dX9_init_50 : decode cX9_init 50 = .ok (.aload_n 0, 1) := by decide +kernel
theorem dX9_init_51 : decode cX9_init 51 = .ok (.new 30, 3) := by decide +kernel
theorem dX9_init_54 : decode cX9_init 54 = .ok (.dup, 1) := by decide +kernel
theorem dX9_init_55 : decode cX9_init 55 = .ok (.iconst 2, 1) := by decide +kernel
theorem dX9_init_56 : decode cX9_init 56 = .ok (.invokespecial 32, 3) := by decide +kernel
theorem dX9_init_59 : decode cX9_init 59 = .ok (.putfield 39, 3) := by decide +kernel
theorem dX9_init_62 : decode cX9_init 62 = .ok (.aload_n 0, 1) := by decide +kernel
theorem dX9_init_63 : decode cX9_init 63 = .ok (.new 42, 3) := by decide +kernel
theorem dX9_init_66 : decode cX9_init 66 = .ok (.dup, 1) := by decide +kernel
theorem dX9_init_67 : decode cX9_init 67 = .ok (.invokespecial 44, 3) := by decide +kernel
theorem dX9_init_70 : decode cX9_init 70 = .ok (.putfield 45, 3) := by decide +kernel
theorem dX9_init_73 : decode cX9_init 73 = .ok (.aload_n 0, 1) := by decide +kernel
theorem dX9_init_74 : decode cX9_init 74 = .ok (.new 49, 3) := by decide +kernel
theorem dX9_init_77 : decode cX9_init 77 = .ok (.dup, 1) := by decide +kernel
theorem dX9_init_78 : decode cX9_init 78 = .ok (.invokespecial 51, 3) := by decide +kernel
theorem dX9_init_81 : decode cX9_init 81 = .ok (.putfield 52, 3) := by decide +kernel
theorem dX9_init_84 : decode cX9_init 84 = .ok (.aload_n 0, 1) := by decide +kernel
theorem dX9_init_85 : decode cX9_init 85 = .ok (.new 56, 3) := by decide +kernel
theorem dX9_init_88 : decode cX9_init 88 = .ok (.dup, 1) := by decide +kernel
theorem dX9_init_89 : decode cX9_init 89 = .ok (.invokespecial 58, 3) := by decide +kernel
theorem dX9_init_92 : decode cX9_init 92 = .ok (.putfield 59, 3) := by decide +kernel
theorem dX9_init_95 : decode cX9_init 95 = .ok (.aload_n 0, 1) := by decide +kernel
theorem dX9_init_96 : decode cX9_init 96 = .ok (.new 63, 3) := by decide +kernel
theorem dX9_init_99 : decode cX9_init 99 = .ok (.dup, 1) := by decide +kernel
theorem dX9_init_100 : decode cX9_init 100 = .ok (.invokespecial 65, 3) := by decide +kernel
theorem dX9_init_103 : decode cX9_init 103 = .ok (.putfield 66, 3) := by decide +kernel
theorem dX9_init_106 : decode cX9_init 106 = .ok (.aload_n 0, 1) := by decide +kernel
theorem dX9_init_107 : decode cX9_init 107 = .ok (.invokestatic 70, 3) := by decide +kernel
theorem dX9_init_110 : decode cX9_init 110 = .ok (.putfield 74, 3) := by decide +kernel
theorem dX9_init_113 : decode cX9_init 113 = .ok (.return_, 1) := by decide +kernel
theorem dX9_write_0 : decode cX9_write 0 = .ok (.iload_n 1, 1) := by decide +kernel
theorem dX9_write_1 : decode cX9_write 1 = .ok (.bipush 32, 2) := by decide +kernel
theorem dX9_write_3 : decode cX9_write 3 = .ok (.if_icmp .lt 9, 3) := by decide +kernel
theorem dX9_write_6 : decode cX9_write 6 = .ok (.iload_n 1, 1) := by decide +kernel
theorem dX9_write_7 : decode cX9_write 7 = .ok (.bipush 126, 2) := by decide +kernel
theorem dX9_write_9 : decode cX9_write 9 = .ok (.if_icmp .le 5, 3) := by decide +kernel
theorem dX9_write_12 : decode cX9_write 12 = .ok (.iconst (-1), 1) := by decide +kernel
theorem dX9_write_13 : decode cX9_write 13 = .ok (.ireturn, 1) := by decide +kernel
theorem dX9_write_14 : decode cX9_write 14 = .ok (.aload_n 0, 1) := by decide +kernel
theorem dX9_write_15 : decode cX9_write 15 = .ok (.getfield 10, 3) := by decide +kernel
theorem dX9_write_18 : decode cX9_write 18 = .ok (.iload_n 1, 1) := by decide +kernel
theorem dX9_write_19 : decode cX9_write 19 = .ok (.invokevirtual 77, 3) := by decide +kernel
theorem dX9_write_22 : decode cX9_write 22 = .ok (.ifCond .eq 13, 3) := by decide +kernel
theorem dX9_write_25 : decode cX9_write 25 = .ok (.aload_n 0, 1) := by decide +kernel
theorem dX9_write_26 : decode cX9_write 26 = .ok (.getfield 10, 3) := by decide +kernel
theorem dX9_write_29 : decode cX9_write 29 = .ok (.invokevirtual 81, 3) := by decide +kernel
theorem dX9_write_32 : decode cX9_write 32 = .ok (.goto 5, 3) := by decide +kernel
theorem dX9_write_35 : decode cX9_write 35 = .ok (.bipush (-3), 2) := by decide +kernel
theorem dX9_write_37 : decode cX9_write 37 = .ok (.ireturn, 1) := by decide +kernel
theorem dX9_wipe_0 : decode cX9_wipe 0 = .ok (.aload_n 0, 1) := by decide +kernel
theorem dX9_wipe_1 : decode cX9_wipe 1 = .ok (.getfield 10, 3) := by decide +kernel
theorem dX9_wipe_4 : decode cX9_wipe 4 = .ok (.invokevirtual 81, 3) := by decide +kernel
theorem dX9_wipe_7 : decode cX9_wipe 7 = .ok (.istore_n 1, 1) := by decide +kernel
theorem dX9_wipe_8 : decode cX9_wipe 8 = .ok (.aload_n 0, 1) := by decide +kernel
theorem dX9_wipe_9 : decode cX9_wipe 9 = .ok (.getfield 10, 3) := by decide +kernel
theorem dX9_wipe_12 : decode cX9_wipe 12 = .ok (.invokevirtual 85, 3) := by decide +kernel
theorem dX9_wipe_15 : decode cX9_wipe 15 = .ok (.iload_n 1, 1) := by decide +kernel
theorem dX9_wipe_16 : decode cX9_wipe 16 = .ok (.ireturn, 1) := by decide +kernel
theorem dX9_fault_0 : decode cX9_fault 0 = .ok (.aload_n 0, 1) := by decide +kernel
theorem dX9_fault_1 : decode cX9_fault 1 = .ok (.getfield 19, 3) := by decide +kernel
theorem dX9_fault_4 : decode cX9_fault 4 = .ok (.aload_n 0, 1) := by decide +kernel
theorem dX9_fault_5 : decode cX9_fault 5 = .ok (.getfield 10, 3) := by decide +kernel
theorem dX9_fault_8 : decode cX9_fault 8 = .ok (.aload_n 0, 1) := by decide +kernel
theorem dX9_fault_9 : decode cX9_fault 9 = .ok (.getfield 26, 3) := by decide +kernel
theorem dX9_fault_12 : decode cX9_fault 12 = .ok (.invokevirtual 88, 3) := by decide +kernel
theorem dX9_fault_15 : decode cX9_fault 15 = .ok (.ireturn, 1) := by decide +kernel
theorem dX9_lay_0 : decode cX9_lay 0 = .ok (.aload_n 0, 1) := by decide +kernel
theorem dX9_lay_1 : decode cX9_lay 1 = .ok (.getfield 19, 3) := by decide +kernel
theorem dX9_lay_4 : decode cX9_lay 4 = .ok (.aload_n 0, 1) := by decide +kernel
theorem dX9_lay_5 : decode cX9_lay 5 = .ok (.getfield 10, 3) := by decide +kernel
theorem dX9_lay_8 : decode cX9_lay 8 = .ok (.aload_n 0, 1) := by decide +kernel
theorem dX9_lay_9 : decode cX9_lay 9 = .ok (.getfield 26, 3) := by decide +kernel
theorem dX9_lay_12 : decode cX9_lay 12 = .ok (.invokevirtual 88, 3) := by decide +kernel
theorem dX9_lay_15 : decode cX9_lay 15 = .ok (.bipush (-4), 2) := by decide +kernel
theorem dX9_lay_17 : decode cX9_lay 17 = .ok (.if_icmp .eq 6, 3) := by decide +kernel
theorem dX9_lay_20 : decode cX9_lay 20 = .ok (.bipush (-2), 2) := by decide +kernel
theorem dX9_lay_22 : decode cX9_lay 22 = .ok (.ireturn, 1) := by decide +kernel
theorem dX9_lay_23 : decode cX9_lay 23 = .ok (.aload_n 0, 1) := by decide +kernel
theorem dX9_lay_24 : decode cX9_lay 24 = .ok (.getfield 26, 3) := by decide +kernel
theorem dX9_lay_27 : decode cX9_lay 27 = .ok (.iconst 0, 1) := by decide +kernel
theorem dX9_lay_28 : decode cX9_lay 28 = .ok (.invokevirtual 92, 3) := by decide +kernel
theorem dX9_lay_31 : decode cX9_lay 31 = .ok (.invokevirtual 96, 3) := by decide +kernel
theorem dX9_lay_34 : decode cX9_lay 34 = .ok (.istore_n 1, 1) := by decide +kernel
theorem dX9_lay_35 : decode cX9_lay 35 = .ok (.aload_n 0, 1) := by decide +kernel
theorem dX9_lay_36 : decode cX9_lay 36 = .ok (.getfield 26, 3) := by decide +kernel
theorem dX9_lay_39 : decode cX9_lay 39 = .ok (.iconst 1, 1) := by decide +kernel
theorem dX9_lay_40 : decode cX9_lay 40 = .ok (.invokevirtual 92, 3) := by decide +kernel
theorem dX9_lay_43 : decode cX9_lay 43 = .ok (.invokevirtual 96, 3) := by decide +kernel
theorem dX9_lay_46 : decode cX9_lay 46 = .ok (.istore_n 2, 1) := by decide +kernel
theorem dX9_lay_47 : decode cX9_lay 47 = .ok (.iload_n 1, 1) := by decide +kernel
theorem dX9_lay_48 : decode cX9_lay 48 = .ok (.ifCond .eq 7, 3) := by decide +kernel
theorem dX9_lay_51 : decode cX9_lay 51 = .ok (.iload_n 2, 1) := by decide +kernel
theorem dX9_lay_52 : decode cX9_lay 52 = .ok (.ifCond .ne 6, 3) := by decide +kernel
theorem dX9_lay_55 : decode cX9_lay 55 = .ok (.bipush (-2), 2) := by decide +kernel
theorem dX9_lay_57 : decode cX9_lay 57 = .ok (.ireturn, 1) := by decide +kernel
theorem dX9_lay_58 : decode cX9_lay 58 = .ok (.aload_n 0, 1) := by decide +kernel
theorem dX9_lay_59 : decode cX9_lay 59 = .ok (.getfield 74, 3) := by decide +kernel
theorem dX9_lay_62 : decode cX9_lay 62 = .ok (.aload_n 0, 1) := by decide +kernel
theorem dX9_lay_63 : decode cX9_lay 63 = .ok (.getfield 26, 3) := by decide +kernel
theorem dX9_lay_66 : decode cX9_lay 66 = .ok (.invokevirtual 101, 3) := by decide +kernel
theorem dX9_lay_69 : decode cX9_lay 69 = .ok (.aload_n 0, 1) := by decide +kernel
theorem dX9_lay_70 : decode cX9_lay 70 = .ok (.getfield 45, 3) := by decide +kernel
theorem dX9_lay_73 : decode cX9_lay 73 = .ok (.invokevirtual 105, 3) := by decide +kernel
theorem dX9_lay_76 : decode cX9_lay 76 = .ok (.aload_n 0, 1) := by decide +kernel
theorem dX9_lay_77 : decode cX9_lay 77 = .ok (.getfield 35, 3) := by decide +kernel
theorem dX9_lay_80 : decode cX9_lay 80 = .ok (.invokevirtual 106, 3) := by decide +kernel
theorem dX9_lay_83 : decode cX9_lay 83 = .ok (.aload_n 0, 1) := by decide +kernel
theorem dX9_lay_84 : decode cX9_lay 84 = .ok (.getfield 39, 3) := by decide +kernel
theorem dX9_lay_87 : decode cX9_lay 87 = .ok (.invokevirtual 106, 3) := by decide +kernel
theorem dX9_lay_90 : decode cX9_lay 90 = .ok (.iload_n 1, 1) := by decide +kernel
theorem dX9_lay_91 : decode cX9_lay 91 = .ok (.iload_n 2, 1) := by decide +kernel
theorem dX9_lay_92 : decode cX9_lay 92 = .ok (.iadd, 1) := by decide +kernel
theorem dX9_lay_93 : decode cX9_lay 93 = .ok (.ireturn, 1) := by decide +kernel
theorem dX9_meeting_0 : decode cX9_meeting 0 = .ok (.aload_n 0, 1) := by decide +kernel
theorem dX9_meeting_1 : decode cX9_meeting 1 = .ok (.iload_n 1, 1) := by decide +kernel
theorem dX9_meeting_2 : decode cX9_meeting 2 = .ok (.iload_n 2, 1) := by decide +kernel
theorem dX9_meeting_3 : decode cX9_meeting 3 = .ok (.invokevirtual 107, 3) := by decide +kernel
theorem dX9_meeting_6 : decode cX9_meeting 6 = .ok (.ifCond .ne 5, 3) := by decide +kernel
theorem dX9_meeting_9 : decode cX9_meeting 9 = .ok (.iconst (-1), 1) := by decide +kernel
theorem dX9_meeting_10 : decode cX9_meeting 10 = .ok (.ireturn, 1) := by decide +kernel
theorem dX9_meeting_11 : decode cX9_meeting 11 = .ok (.aload_n 0, 1) := by decide +kernel
theorem dX9_meeting_12 : decode cX9_meeting 12 = .ok (.getfield 74, 3) := by decide +kernel
theorem dX9_meeting_15 : decode cX9_meeting 15 = .ok (.iload_n 1, 1) := by decide +kernel
theorem dX9_meeting_16 : decode cX9_meeting 16 = .ok (.invokevirtual 92, 3) := by decide +kernel
theorem dX9_meeting_19 : decode cX9_meeting 19 = .ok (.astore 4, 2) := by decide +kernel
theorem dX9_meeting_21 : decode cX9_meeting 21 = .ok (.iload_n 3, 1) := by decide +kernel
theorem dX9_meeting_22 : decode cX9_meeting 22 = .ok (.tableswitch 72 0 4 #[34, 41, 48, 55, 65], 34) := by decide +kernel
theorem dX9_meeting_56 : decode cX9_meeting 56 = .ok (.aload 4, 2) := by decide +kernel
theorem dX9_meeting_58 : decode cX9_meeting 58 = .ok (.iload_n 2, 1) := by decide +kernel
theorem dX9_meeting_59 : decode cX9_meeting 59 = .ok (.invokevirtual 111, 3) := by decide +kernel
theorem dX9_meeting_62 : decode cX9_meeting 62 = .ok (.ireturn, 1) := by decide +kernel
theorem dX9_meeting_63 : decode cX9_meeting 63 = .ok (.aload 4, 2) := by decide +kernel
theorem dX9_meeting_65 : decode cX9_meeting 65 = .ok (.iload_n 2, 1) := by decide +kernel
theorem dX9_meeting_66 : decode cX9_meeting 66 = .ok (.invokevirtual 115, 3) := by decide +kernel
theorem dX9_meeting_69 : decode cX9_meeting 69 = .ok (.ireturn, 1) := by decide +kernel
theorem dX9_meeting_70 : decode cX9_meeting 70 = .ok (.aload 4, 2) := by decide +kernel
theorem dX9_meeting_72 : decode cX9_meeting 72 = .ok (.iload_n 2, 1) := by decide +kernel
theorem dX9_meeting_73 : decode cX9_meeting 73 = .ok (.invokevirtual 118, 3) := by decide +kernel
theorem dX9_meeting_76 : decode cX9_meeting 76 = .ok (.ireturn, 1) := by decide +kernel
theorem dX9_meeting_77 : decode cX9_meeting 77 = .ok (.aload_n 0, 1) := by decide +kernel
theorem dX9_meeting_78 : decode cX9_meeting 78 = .ok (.getfield 74, 3) := by decide +kernel
theorem dX9_meeting_81 : decode cX9_meeting 81 = .ok (.iload_n 1, 1) := by decide +kernel
theorem dX9_meeting_82 : decode cX9_meeting 82 = .ok (.iload_n 2, 1) := by decide +kernel
theorem dX9_meeting_83 : decode cX9_meeting 83 = .ok (.invokevirtual 121, 3) := by decide +kernel
theorem dX9_meeting_86 : decode cX9_meeting 86 = .ok (.ireturn, 1) := by decide +kernel
theorem dX9_meeting_87 : decode cX9_meeting 87 = .ok (.aload 4, 2) := by decide +kernel
theorem dX9_meeting_89 : decode cX9_meeting 89 = .ok (.iload_n 2, 1) := by decide +kernel
theorem dX9_meeting_90 : decode cX9_meeting 90 = .ok (.invokevirtual 125, 3) := by decide +kernel
theorem dX9_meeting_93 : decode cX9_meeting 93 = .ok (.ireturn, 1) := by decide +kernel
theorem dX9_meeting_94 : decode cX9_meeting 94 = .ok (.iconst (-1), 1) := by decide +kernel
theorem dX9_meeting_95 : decode cX9_meeting 95 = .ok (.ireturn, 1) := by decide +kernel
theorem dX9_street_0 : decode cX9_street 0 = .ok (.aload_n 0, 1) := by decide +kernel
theorem dX9_street_1 : decode cX9_street 1 = .ok (.iload_n 1, 1) := by decide +kernel
theorem dX9_street_2 : decode cX9_street 2 = .ok (.iload_n 2, 1) := by decide +kernel
theorem dX9_street_3 : decode cX9_street 3 = .ok (.invokevirtual 128, 3) := by decide +kernel
theorem dX9_street_6 : decode cX9_street 6 = .ok (.ifCond .ne 5, 3) := by decide +kernel
theorem dX9_street_9 : decode cX9_street 9 = .ok (.iconst (-1), 1) := by decide +kernel
theorem dX9_street_10 : decode cX9_street 10 = .ok (.ireturn, 1) := by decide +kernel
theorem dX9_street_11 : decode cX9_street 11 = .ok (.aload_n 0, 1) := by decide +kernel
theorem dX9_street_12 : decode cX9_street 12 = .ok (.getfield 74, 3) := by decide +kernel
theorem dX9_street_15 : decode cX9_street 15 = .ok (.iload_n 1, 1) := by decide +kernel
theorem dX9_street_16 : decode cX9_street 16 = .ok (.invokevirtual 92, 3) := by decide +kernel
theorem dX9_street_19 : decode cX9_street 19 = .ok (.astore 4, 2) := by decide +kernel
theorem dX9_street_21 : decode cX9_street 21 = .ok (.iload_n 3, 1) := by decide +kernel
theorem dX9_street_22 : decode cX9_street 22 = .ok (.tableswitch 47 0 2 #[26, 33, 40], 26) := by decide +kernel
theorem dX9_street_48 : decode cX9_street 48 = .ok (.aload 4, 2) := by decide +kernel
theorem dX9_street_50 : decode cX9_street 50 = .ok (.iload_n 2, 1) := by decide +kernel
theorem dX9_street_51 : decode cX9_street 51 = .ok (.invokevirtual 131, 3) := by decide +kernel
theorem dX9_street_54 : decode cX9_street 54 = .ok (.ireturn, 1) := by decide +kernel
theorem dX9_street_55 : decode cX9_street 55 = .ok (.aload 4, 2) := by decide +kernel
theorem dX9_street_57 : decode cX9_street 57 = .ok (.iload_n 2, 1) := by decide +kernel
theorem dX9_street_58 : decode cX9_street 58 = .ok (.invokevirtual 134, 3) := by decide +kernel
theorem dX9_street_61 : decode cX9_street 61 = .ok (.ireturn, 1) := by decide +kernel
theorem dX9_street_62 : decode cX9_street 62 = .ok (.aload 4, 2) := by decide +kernel
theorem dX9_street_64 : decode cX9_street 64 = .ok (.iload_n 2, 1) := by decide +kernel
theorem dX9_street_65 : decode cX9_street 65 = .ok (.invokevirtual 137, 3) := by decide +kernel
theorem dX9_street_68 : decode cX9_street 68 = .ok (.ireturn, 1) := by decide +kernel
theorem dX9_street_69 : decode cX9_street 69 = .ok (.iconst (-1), 1) := by decide +kernel
theorem dX9_street_70 : decode cX9_street 70 = .ok (.ireturn, 1) := by decide +kernel
theorem dX9_move_0 : decode cX9_move 0 = .ok (.aload_n 0, 1) := by decide +kernel
theorem dX9_move_1 : decode cX9_move 1 = .ok (.iload_n 1, 1) := by decide +kernel
theorem dX9_move_2 : decode cX9_move 2 = .ok (.iload_n 2, 1) := by decide +kernel
theorem dX9_move_3 : decode cX9_move 3 = .ok (.invokevirtual 107, 3) := by decide +kernel
theorem dX9_move_6 : decode cX9_move 6 = .ok (.ifCond .eq 24, 3) := by decide +kernel
theorem dX9_move_9 : decode cX9_move 9 = .ok (.iload_n 3, 1) := by decide +kernel
theorem dX9_move_10 : decode cX9_move 10 = .ok (.iconst 0, 1) := by decide +kernel
theorem dX9_move_11 : decode cX9_move 11 = .ok (.bipush 60, 2) := by decide +kernel
theorem dX9_move_13 : decode cX9_move 13 = .ok (.invokestatic 140, 3) := by decide +kernel
theorem dX9_move_16 : decode cX9_move 16 = .ok (.ifCond .eq 14, 3) := by decide +kernel
theorem dX9_move_19 : decode cX9_move 19 = .ok (.iload 4, 2) := by decide +kernel
theorem dX9_move_21 : decode cX9_move 21 = .ok (.iconst 0, 1) := by decide +kernel
theorem dX9_move_22 : decode cX9_move 22 = .ok (.bipush 60, 2) := by decide +kernel
theorem dX9_move_24 : decode cX9_move 24 = .ok (.invokestatic 140, 3) := by decide +kernel
theorem dX9_move_27 : decode cX9_move 27 = .ok (.ifCond .ne 5, 3) := by decide +kernel
theorem dX9_move_30 : decode cX9_move 30 = .ok (.iconst (-1), 1) := by decide +kernel
theorem dX9_move_31 : decode cX9_move 31 = .ok (.ireturn, 1) := by decide +kernel
theorem dX9_move_32 : decode cX9_move 32 = .ok (.aload_n 0, 1) := by decide +kernel
theorem dX9_move_33 : decode cX9_move 33 = .ok (.getfield 74, 3) := by decide +kernel
theorem dX9_move_36 : decode cX9_move 36 = .ok (.iload_n 1, 1) := by decide +kernel
theorem dX9_move_37 : decode cX9_move 37 = .ok (.invokevirtual 92, 3) := by decide +kernel
theorem dX9_move_40 : decode cX9_move 40 = .ok (.astore 5, 2) := by decide +kernel
theorem dX9_move_42 : decode cX9_move 42 = .ok (.aload 5, 2) := by decide +kernel
theorem dX9_move_44 : decode cX9_move 44 = .ok (.iload_n 2, 1) := by decide +kernel
theorem dX9_move_45 : decode cX9_move 45 = .ok (.invokevirtual 115, 3) := by decide +kernel
theorem dX9_move_48 : decode cX9_move 48 = .ok (.iload_n 3, 1) := by decide +kernel
theorem dX9_move_49 : decode cX9_move 49 = .ok (.if_icmp .ne 17, 3) := by decide +kernel
theorem dX9_move_52 : decode cX9_move 52 = .ok (.aload 5, 2) := by decide +kernel
theorem dX9_move_54 : decode cX9_move 54 = .ok (.iload_n 2, 1) := by decide +kernel
theorem dX9_move_55 : decode cX9_move 55 = .ok (.invokevirtual 118, 3) := by decide +kernel
theorem dX9_move_58 : decode cX9_move 58 = .ok (.iload 4, 2) := by decide +kernel
theorem dX9_move_60 : decode cX9_move 60 = .ok (.if_icmp .ne 6, 3) := by decide +kernel
theorem dX9_move_63 : decode cX9_move 63 = .ok (.bipush (-2), 2) := by decide +kernel
theorem dX9_move_65 : decode cX9_move 65 = .ok (.ireturn, 1) := by decide +kernel
theorem dX9_move_66 : decode cX9_move 66 = .ok (.aload_n 0, 1) := by decide +kernel
theorem dX9_move_67 : decode cX9_move 67 = .ok (.getfield 35, 3) := by decide +kernel
theorem dX9_move_70 : decode cX9_move 70 = .ok (.aload_n 0, 1) := by decide +kernel
theorem dX9_move_71 : decode cX9_move 71 = .ok (.getfield 74, 3) := by decide +kernel
theorem dX9_move_74 : decode cX9_move 74 = .ok (.invokevirtual 144, 3) := by decide +kernel
theorem dX9_move_77 : decode cX9_move 77 = .ok (.aload 5, 2) := by decide +kernel
theorem dX9_move_79 : decode cX9_move 79 = .ok (.iload_n 2, 1) := by decide +kernel
theorem dX9_move_80 : decode cX9_move 80 = .ok (.iload_n 3, 1) := by decide +kernel
theorem dX9_move_81 : decode cX9_move 81 = .ok (.iload 4, 2) := by decide +kernel
theorem dX9_move_83 : decode cX9_move 83 = .ok (.invokevirtual 147, 3) := by decide +kernel
theorem dX9_move_86 : decode cX9_move 86 = .ok (.iconst 1, 1) := by decide +kernel
theorem dX9_move_87 : decode cX9_move 87 = .ok (.ireturn, 1) := by decide +kernel
theorem dX9_rename_0 : decode cX9_rename 0 = .ok (.aload_n 0, 1) := by decide +kernel
theorem dX9_rename_1 : decode cX9_rename 1 = .ok (.iload_n 1, 1) := by decide +kernel
theorem dX9_rename_2 : decode cX9_rename 2 = .ok (.iload_n 2, 1) := by decide +kernel
theorem dX9_rename_3 : decode cX9_rename 3 = .ok (.invokevirtual 107, 3) := by decide +kernel
theorem dX9_rename_6 : decode cX9_rename 6 = .ok (.ifCond .eq 12, 3) := by decide +kernel
theorem dX9_rename_9 : decode cX9_rename 9 = .ok (.iload_n 3, 1) := by decide +kernel
theorem dX9_rename_10 : decode cX9_rename 10 = .ok (.iconst 0, 1) := by decide +kernel
theorem dX9_rename_11 : decode cX9_rename 11 = .ok (.iconst 3, 1) := by decide +kernel
theorem dX9_rename_12 : decode cX9_rename 12 = .ok (.invokestatic 140, 3) := by decide +kernel
theorem dX9_rename_15 : decode cX9_rename 15 = .ok (.ifCond .ne 5, 3) := by decide +kernel
theorem dX9_rename_18 : decode cX9_rename 18 = .ok (.iconst (-1), 1) := by decide +kernel
theorem dX9_rename_19 : decode cX9_rename 19 = .ok (.ireturn, 1) := by decide +kernel
theorem dX9_rename_20 : decode cX9_rename 20 = .ok (.aload_n 0, 1) := by decide +kernel
theorem dX9_rename_21 : decode cX9_rename 21 = .ok (.getfield 74, 3) := by decide +kernel
theorem dX9_rename_24 : decode cX9_rename 24 = .ok (.iload_n 1, 1) := by decide +kernel
theorem dX9_rename_25 : decode cX9_rename 25 = .ok (.invokevirtual 92, 3) := by decide +kernel
theorem dX9_rename_28 : decode cX9_rename 28 = .ok (.astore 4, 2) := by decide +kernel
theorem dX9_rename_30 : decode cX9_rename 30 = .ok (.aload 4, 2) := by decide +kernel
theorem dX9_rename_32 : decode cX9_rename 32 = .ok (.iload_n 2, 1) := by decide +kernel
theorem dX9_rename_33 : decode cX9_rename 33 = .ok (.invokevirtual 111, 3) := by decide +kernel
theorem dX9_rename_36 : decode cX9_rename 36 = .ok (.istore 5, 2) := by decide +kernel
theorem dX9_rename_38 : decode cX9_rename 38 = .ok (.iload 5, 2) := by decide +kernel
theorem dX9_rename_40 : decode cX9_rename 40 = .ok (.iload_n 3, 1) := by decide +kernel
theorem dX9_rename_41 : decode cX9_rename 41 = .ok (.if_icmp .ne 6, 3) := by decide +kernel
theorem dX9_rename_44 : decode cX9_rename 44 = .ok (.bipush (-2), 2) := by decide +kernel
theorem dX9_rename_46 : decode cX9_rename 46 = .ok (.ireturn, 1) := by decide +kernel
theorem dX9_rename_47 : decode cX9_rename 47 = .ok (.aload_n 0, 1) := by decide +kernel
theorem dX9_rename_48 : decode cX9_rename 48 = .ok (.getfield 35, 3) := by decide +kernel
theorem dX9_rename_51 : decode cX9_rename 51 = .ok (.aload_n 0, 1) := by decide +kernel
theorem dX9_rename_52 : decode cX9_rename 52 = .ok (.getfield 74, 3) := by decide +kernel
theorem dX9_rename_55 : decode cX9_rename 55 = .ok (.invokevirtual 144, 3) := by decide +kernel
theorem dX9_rename_58 : decode cX9_rename 58 = .ok (.aload 4, 2) := by decide +kernel
theorem dX9_rename_60 : decode cX9_rename 60 = .ok (.iload_n 2, 1) := by decide +kernel
theorem dX9_rename_61 : decode cX9_rename 61 = .ok (.iload_n 3, 1) := by decide +kernel
theorem dX9_rename_62 : decode cX9_rename 62 = .ok (.invokevirtual 151, 3) := by decide +kernel
theorem dX9_rename_65 : decode cX9_rename 65 = .ok (.iload 5, 2) := by decide +kernel
theorem dX9_rename_67 : decode cX9_rename 67 = .ok (.ireturn, 1) := by decide +kernel
theorem dX9_name_0 : decode cX9_name 0 = .ok (.aload_n 0, 1) := by decide +kernel
theorem dX9_name_1 : decode cX9_name 1 = .ok (.iload_n 1, 1) := by decide +kernel
theorem dX9_name_2 : decode cX9_name 2 = .ok (.iload_n 2, 1) := by decide +kernel
theorem dX9_name_3 : decode cX9_name 3 = .ok (.invokevirtual 128, 3) := by decide +kernel
theorem dX9_name_6 : decode cX9_name 6 = .ok (.ifCond .eq 13, 3) := by decide +kernel
theorem dX9_name_9 : decode cX9_name 9 = .ok (.iload_n 3, 1) := by decide +kernel
theorem dX9_name_10 : decode cX9_name 10 = .ok (.iconst 0, 1) := by decide +kernel
theorem dX9_name_11 : decode cX9_name 11 = .ok (.bipush 9, 2) := by decide +kernel
theorem dX9_name_13 : decode cX9_name 13 = .ok (.invokestatic 140, 3) := by decide +kernel
theorem dX9_name_16 : decode cX9_name 16 = .ok (.ifCond .ne 5, 3) := by decide +kernel
theorem dX9_name_19 : decode cX9_name 19 = .ok (.iconst (-1), 1) := by decide +kernel
theorem dX9_name_20 : decode cX9_name 20 = .ok (.ireturn, 1) := by decide +kernel
theorem dX9_name_21 : decode cX9_name 21 = .ok (.aload_n 0, 1) := by decide +kernel
theorem dX9_name_22 : decode cX9_name 22 = .ok (.getfield 74, 3) := by decide +kernel
theorem dX9_name_25 : decode cX9_name 25 = .ok (.iload_n 1, 1) := by decide +kernel
theorem dX9_name_26 : decode cX9_name 26 = .ok (.invokevirtual 92, 3) := by decide +kernel
theorem dX9_name_29 : decode cX9_name 29 = .ok (.astore 4, 2) := by decide +kernel
theorem dX9_name_31 : decode cX9_name 31 = .ok (.aload 4, 2) := by decide +kernel
theorem dX9_name_33 : decode cX9_name 33 = .ok (.iload_n 2, 1) := by decide +kernel
theorem dX9_name_34 : decode cX9_name 34 = .ok (.invokevirtual 137, 3) := by decide +kernel
theorem dX9_name_37 : decode cX9_name 37 = .ok (.istore 5, 2) := by decide +kernel
theorem dX9_name_39 : decode cX9_name 39 = .ok (.iload 5, 2) := by decide +kernel
theorem dX9_name_41 : decode cX9_name 41 = .ok (.iload_n 3, 1) := by decide +kernel
theorem dX9_name_42 : decode cX9_name 42 = .ok (.if_icmp .ne 6, 3) := by decide +kernel
theorem dX9_name_45 : decode cX9_name 45 = .ok (.bipush (-2), 2) := by decide +kernel
theorem dX9_name_47 : decode cX9_name 47 = .ok (.ireturn, 1) := by decide +kernel
theorem dX9_name_48 : decode cX9_name 48 = .ok (.aload_n 0, 1) := by decide +kernel
theorem dX9_name_49 : decode cX9_name 49 = .ok (.getfield 35, 3) := by decide +kernel
theorem dX9_name_52 : decode cX9_name 52 = .ok (.aload_n 0, 1) := by decide +kernel
theorem dX9_name_53 : decode cX9_name 53 = .ok (.getfield 74, 3) := by decide +kernel
theorem dX9_name_56 : decode cX9_name 56 = .ok (.invokevirtual 144, 3) := by decide +kernel
theorem dX9_name_59 : decode cX9_name 59 = .ok (.aload 4, 2) := by decide +kernel
theorem dX9_name_61 : decode cX9_name 61 = .ok (.iload_n 2, 1) := by decide +kernel
theorem dX9_name_62 : decode cX9_name 62 = .ok (.iload_n 3, 1) := by decide +kernel
theorem dX9_name_63 : decode cX9_name 63 = .ok (.invokevirtual 155, 3) := by decide +kernel
theorem dX9_name_66 : decode cX9_name 66 = .ok (.iload 5, 2) := by decide +kernel
theorem dX9_name_68 : decode cX9_name 68 = .ok (.ireturn, 1) := by decide +kernel
theorem dX9_join_0 : decode cX9_join 0 = .ok (.aload_n 0, 1) := by decide +kernel
theorem dX9_join_1 : decode cX9_join 1 = .ok (.iload_n 1, 1) := by decide +kernel
theorem dX9_join_2 : decode cX9_join 2 = .ok (.iload_n 2, 1) := by decide +kernel
theorem dX9_join_3 : decode cX9_join 3 = .ok (.invokevirtual 107, 3) := by decide +kernel
theorem dX9_join_6 : decode cX9_join 6 = .ok (.ifCond .eq 28, 3) := by decide +kernel
theorem dX9_join_9 : decode cX9_join 9 = .ok (.aload_n 0, 1) := by decide +kernel
theorem dX9_join_10 : decode cX9_join 10 = .ok (.iload_n 1, 1) := by decide +kernel
theorem dX9_join_11 : decode cX9_join 11 = .ok (.iload_n 3, 1) := by decide +kernel
theorem dX9_join_12 : decode cX9_join 12 = .ok (.invokevirtual 107, 3) := by decide +kernel
theorem dX9_join_15 : decode cX9_join 15 = .ok (.ifCond .eq 19, 3) := by decide +kernel
theorem dX9_join_18 : decode cX9_join 18 = .ok (.iload_n 2, 1) := by decide +kernel
theorem dX9_join_19 : decode cX9_join 19 = .ok (.iload_n 3, 1) := by decide +kernel
theorem dX9_join_20 : decode cX9_join 20 = .ok (.if_icmp .eq 14, 3) := by decide +kernel
theorem dX9_join_23 : decode cX9_join 23 = .ok (.iload 4, 2) := by decide +kernel
theorem dX9_join_25 : decode cX9_join 25 = .ok (.iconst 0, 1) := by decide +kernel
theorem dX9_join_26 : decode cX9_join 26 = .ok (.bipush 9, 2) := by decide +kernel
theorem dX9_join_28 : decode cX9_join 28 = .ok (.invokestatic 140, 3) := by decide +kernel
theorem dX9_join_31 : decode cX9_join 31 = .ok (.ifCond .ne 5, 3) := by decide +kernel
theorem dX9_join_34 : decode cX9_join 34 = .ok (.iconst (-1), 1) := by decide +kernel
theorem dX9_join_35 : decode cX9_join 35 = .ok (.ireturn, 1) := by decide +kernel
theorem dX9_join_36 : decode cX9_join 36 = .ok (.aload_n 0, 1) := by decide +kernel
theorem dX9_join_37 : decode cX9_join 37 = .ok (.getfield 74, 3) := by decide +kernel
theorem dX9_join_40 : decode cX9_join 40 = .ok (.iload_n 1, 1) := by decide +kernel
theorem dX9_join_41 : decode cX9_join 41 = .ok (.invokevirtual 92, 3) := by decide +kernel
theorem dX9_join_44 : decode cX9_join 44 = .ok (.astore 5, 2) := by decide +kernel
theorem dX9_join_46 : decode cX9_join 46 = .ok (.aload 5, 2) := by decide +kernel
theorem dX9_join_48 : decode cX9_join 48 = .ok (.iload_n 2, 1) := by decide +kernel
theorem dX9_join_49 : decode cX9_join 49 = .ok (.iload_n 3, 1) := by decide +kernel
theorem dX9_join_50 : decode cX9_join 50 = .ok (.invokevirtual 158, 3) := by decide +kernel
theorem dX9_join_53 : decode cX9_join 53 = .ok (.iconst (-1), 1) := by decide +kernel
theorem dX9_join_54 : decode cX9_join 54 = .ok (.if_icmp .eq 6, 3) := by decide +kernel
theorem dX9_join_57 : decode cX9_join 57 = .ok (.bipush (-2), 2) := by decide +kernel
theorem dX9_join_59 : decode cX9_join 59 = .ok (.ireturn, 1) := by decide +kernel
theorem dX9_join_60 : decode cX9_join 60 = .ok (.aload 5, 2) := by decide +kernel
theorem dX9_join_62 : decode cX9_join 62 = .ok (.invokevirtual 161, 3) := by decide +kernel
theorem dX9_join_65 : decode cX9_join 65 = .ok (.bipush 8, 2) := by decide +kernel
theorem dX9_join_67 : decode cX9_join 67 = .ok (.if_icmp .lt 6, 3) := by decide +kernel
theorem dX9_join_70 : decode cX9_join 70 = .ok (.bipush (-3), 2) := by decide +kernel
theorem dX9_join_72 : decode cX9_join 72 = .ok (.ireturn, 1) := by decide +kernel
theorem dX9_join_73 : decode cX9_join 73 = .ok (.aload_n 0, 1) := by decide +kernel
theorem dX9_join_74 : decode cX9_join 74 = .ok (.getfield 35, 3) := by decide +kernel
theorem dX9_join_77 : decode cX9_join 77 = .ok (.aload_n 0, 1) := by decide +kernel
theorem dX9_join_78 : decode cX9_join 78 = .ok (.getfield 74, 3) := by decide +kernel
theorem dX9_join_81 : decode cX9_join 81 = .ok (.invokevirtual 144, 3) := by decide +kernel
theorem dX9_join_84 : decode cX9_join 84 = .ok (.aload 5, 2) := by decide +kernel
theorem dX9_join_86 : decode cX9_join 86 = .ok (.iload_n 2, 1) := by decide +kernel
theorem dX9_join_87 : decode cX9_join 87 = .ok (.iload_n 3, 1) := by decide +kernel
theorem dX9_join_88 : decode cX9_join 88 = .ok (.iload 4, 2) := by decide +kernel
theorem dX9_join_90 : decode cX9_join 90 = .ok (.invokevirtual 164, 3) := by decide +kernel
theorem dX9_join_93 : decode cX9_join 93 = .ok (.pop, 1) := by decide +kernel
theorem dX9_join_94 : decode cX9_join 94 = .ok (.aload 5, 2) := by decide +kernel
theorem dX9_join_96 : decode cX9_join 96 = .ok (.invokevirtual 161, 3) := by decide +kernel
theorem dX9_join_99 : decode cX9_join 99 = .ok (.ireturn, 1) := by decide +kernel
theorem dX9_cut_0 : decode cX9_cut 0 = .ok (.aload_n 0, 1) := by decide +kernel
theorem dX9_cut_1 : decode cX9_cut 1 = .ok (.iload_n 1, 1) := by decide +kernel
theorem dX9_cut_2 : decode cX9_cut 2 = .ok (.iload_n 2, 1) := by decide +kernel
theorem dX9_cut_3 : decode cX9_cut 3 = .ok (.invokevirtual 128, 3) := by decide +kernel
theorem dX9_cut_6 : decode cX9_cut 6 = .ok (.ifCond .ne 5, 3) := by decide +kernel
theorem dX9_cut_9 : decode cX9_cut 9 = .ok (.iconst (-1), 1) := by decide +kernel
theorem dX9_cut_10 : decode cX9_cut 10 = .ok (.ireturn, 1) := by decide +kernel
theorem dX9_cut_11 : decode cX9_cut 11 = .ok (.aload_n 0, 1) := by decide +kernel
theorem dX9_cut_12 : decode cX9_cut 12 = .ok (.getfield 35, 3) := by decide +kernel
theorem dX9_cut_15 : decode cX9_cut 15 = .ok (.aload_n 0, 1) := by decide +kernel
theorem dX9_cut_16 : decode cX9_cut 16 = .ok (.getfield 74, 3) := by decide +kernel
theorem dX9_cut_19 : decode cX9_cut 19 = .ok (.invokevirtual 144, 3) := by decide +kernel
theorem dX9_cut_22 : decode cX9_cut 22 = .ok (.aload_n 0, 1) := by decide +kernel
theorem dX9_cut_23 : decode cX9_cut 23 = .ok (.getfield 74, 3) := by decide +kernel
theorem dX9_cut_26 : decode cX9_cut 26 = .ok (.iload_n 1, 1) := by decide +kernel
theorem dX9_cut_27 : decode cX9_cut 27 = .ok (.invokevirtual 92, 3) := by decide +kernel
theorem dX9_cut_30 : decode cX9_cut 30 = .ok (.astore_n 3, 1) := by decide +kernel
theorem dX9_cut_31 : decode cX9_cut 31 = .ok (.aload_n 3, 1) := by decide +kernel
theorem dX9_cut_32 : decode cX9_cut 32 = .ok (.iload_n 2, 1) := by decide +kernel
theorem dX9_cut_33 : decode cX9_cut 33 = .ok (.invokevirtual 167, 3) := by decide +kernel
theorem dX9_cut_36 : decode cX9_cut 36 = .ok (.aload_n 3, 1) := by decide +kernel
theorem dX9_cut_37 : decode cX9_cut 37 = .ok (.invokevirtual 161, 3) := by decide +kernel
theorem dX9_cut_40 : decode cX9_cut 40 = .ok (.ireturn, 1) := by decide +kernel
theorem dX9_tune_0 : decode cX9_tune 0 = .ok (.iload_n 1, 1) := by decide +kernel
theorem dX9_tune_1 : decode cX9_tune 1 = .ok (.ifCond .ne 7, 3) := by decide +kernel
theorem dX9_tune_4 : decode cX9_tune 4 = .ok (.iconst 1, 1) := by decide +kernel
theorem dX9_tune_5 : decode cX9_tune 5 = .ok (.goto 4, 3) := by decide +kernel
theorem dX9_tune_8 : decode cX9_tune 8 = .ok (.iconst 0, 1) := by decide +kernel
theorem dX9_tune_9 : decode cX9_tune 9 = .ok (.istore_n 3, 1) := by decide +kernel
theorem dX9_tune_10 : decode cX9_tune 10 = .ok (.iload_n 1, 1) := by decide +kernel
theorem dX9_tune_11 : decode cX9_tune 11 = .ok (.iconst 0, 1) := by decide +kernel
theorem dX9_tune_12 : decode cX9_tune 12 = .ok (.iconst 1, 1) := by decide +kernel
theorem dX9_tune_13 : decode cX9_tune 13 = .ok (.invokestatic 140, 3) := by decide +kernel
theorem dX9_tune_16 : decode cX9_tune 16 = .ok (.ifCond .eq 24, 3) := by decide +kernel
theorem dX9_tune_19 : decode cX9_tune 19 = .ok (.iload_n 3, 1) := by decide +kernel
theorem dX9_tune_20 : decode cX9_tune 20 = .ok (.ifCond .eq 13, 3) := by decide +kernel
theorem dX9_tune_23 : decode cX9_tune 23 = .ok (.iload_n 2, 1) := by decide +kernel
theorem dX9_tune_24 : decode cX9_tune 24 = .ok (.invokestatic 170, 3) := by decide +kernel
theorem dX9_tune_27 : decode cX9_tune 27 = .ok (.ifCond .eq 13, 3) := by decide +kernel
theorem dX9_tune_30 : decode cX9_tune 30 = .ok (.goto 12, 3) := by decide +kernel
theorem dX9_tune_33 : decode cX9_tune 33 = .ok (.iload_n 2, 1) := by decide +kernel
theorem dX9_tune_34 : decode cX9_tune 34 = .ok (.invokestatic 173, 3) := by decide +kernel
theorem dX9_tune_37 : decode cX9_tune 37 = .ok (.ifCond .ne 5, 3) := by decide +kernel
theorem dX9_tune_40 : decode cX9_tune 40 = .ok (.iconst (-1), 1) := by decide +kernel
theorem dX9_tune_41 : decode cX9_tune 41 = .ok (.ireturn, 1) := by decide +kernel
theorem dX9_tune_42 : decode cX9_tune 42 = .ok (.iload_n 3, 1) := by decide +kernel
theorem dX9_tune_43 : decode cX9_tune 43 = .ok (.ifCond .eq 13, 3) := by decide +kernel
theorem dX9_tune_46 : decode cX9_tune 46 = .ok (.aload_n 0, 1) := by decide +kernel
theorem dX9_tune_47 : decode cX9_tune 47 = .ok (.getfield 74, 3) := by decide +kernel
theorem dX9_tune_50 : decode cX9_tune 50 = .ok (.invokevirtual 176, 3) := by decide +kernel
theorem dX9_tune_53 : decode cX9_tune 53 = .ok (.goto 10, 3) := by decide +kernel
theorem dX9_tune_56 : decode cX9_tune 56 = .ok (.aload_n 0, 1) := by decide +kernel
theorem dX9_tune_57 : decode cX9_tune 57 = .ok (.getfield 74, 3) := by decide +kernel
theorem dX9_tune_60 : decode cX9_tune 60 = .ok (.invokevirtual 179, 3) := by decide +kernel
theorem dX9_tune_63 : decode cX9_tune 63 = .ok (.istore 4, 2) := by decide +kernel
theorem dX9_tune_65 : decode cX9_tune 65 = .ok (.iload 4, 2) := by decide +kernel
theorem dX9_tune_67 : decode cX9_tune 67 = .ok (.iload_n 2, 1) := by decide +kernel
theorem dX9_tune_68 : decode cX9_tune 68 = .ok (.if_icmp .ne 6, 3) := by decide +kernel
theorem dX9_tune_71 : decode cX9_tune 71 = .ok (.bipush (-2), 2) := by decide +kernel
theorem dX9_tune_73 : decode cX9_tune 73 = .ok (.ireturn, 1) := by decide +kernel
theorem dX9_tune_74 : decode cX9_tune 74 = .ok (.aload_n 0, 1) := by decide +kernel
theorem dX9_tune_75 : decode cX9_tune 75 = .ok (.getfield 35, 3) := by decide +kernel
theorem dX9_tune_78 : decode cX9_tune 78 = .ok (.aload_n 0, 1) := by decide +kernel
theorem dX9_tune_79 : decode cX9_tune 79 = .ok (.getfield 74, 3) := by decide +kernel
theorem dX9_tune_82 : decode cX9_tune 82 = .ok (.invokevirtual 144, 3) := by decide +kernel
theorem dX9_tune_85 : decode cX9_tune 85 = .ok (.iload_n 3, 1) := by decide +kernel
theorem dX9_tune_86 : decode cX9_tune 86 = .ok (.ifCond .eq 15, 3) := by decide +kernel
theorem dX9_tune_89 : decode cX9_tune 89 = .ok (.aload_n 0, 1) := by decide +kernel
theorem dX9_tune_90 : decode cX9_tune 90 = .ok (.getfield 74, 3) := by decide +kernel
theorem dX9_tune_93 : decode cX9_tune 93 = .ok (.iload_n 2, 1) := by decide +kernel
theorem dX9_tune_94 : decode cX9_tune 94 = .ok (.invokevirtual 182, 3) := by decide +kernel
theorem dX9_tune_97 : decode cX9_tune 97 = .ok (.pop, 1) := by decide +kernel
theorem dX9_tune_98 : decode cX9_tune 98 = .ok (.goto 12, 3) := by decide +kernel
theorem dX9_tune_101 : decode cX9_tune 101 = .ok (.aload_n 0, 1) := by decide +kernel
theorem dX9_tune_102 : decode cX9_tune 102 = .ok (.getfield 74, 3) := by decide +kernel
theorem dX9_tune_105 : decode cX9_tune 105 = .ok (.iload_n 2, 1) := by decide +kernel
theorem dX9_tune_106 : decode cX9_tune 106 = .ok (.invokevirtual 185, 3) := by decide +kernel
theorem dX9_tune_109 : decode cX9_tune 109 = .ok (.pop, 1) := by decide +kernel
theorem dX9_tune_110 : decode cX9_tune 110 = .ok (.iload 4, 2) := by decide +kernel
theorem dX9_tune_112 : decode cX9_tune 112 = .ok (.ireturn, 1) := by decide +kernel
theorem dX9_undo_0 : decode cX9_undo 0 = .ok (.aload_n 0, 1) := by decide +kernel
theorem dX9_undo_1 : decode cX9_undo 1 = .ok (.getfield 35, 3) := by decide +kernel
theorem dX9_undo_4 : decode cX9_undo 4 = .ok (.aload_n 0, 1) := by decide +kernel
theorem dX9_undo_5 : decode cX9_undo 5 = .ok (.getfield 74, 3) := by decide +kernel
theorem dX9_undo_8 : decode cX9_undo 8 = .ok (.invokevirtual 188, 3) := by decide +kernel
theorem dX9_undo_11 : decode cX9_undo 11 = .ok (.ifCond .eq 13, 3) := by decide +kernel
theorem dX9_undo_14 : decode cX9_undo 14 = .ok (.aload_n 0, 1) := by decide +kernel
theorem dX9_undo_15 : decode cX9_undo 15 = .ok (.getfield 35, 3) := by decide +kernel
theorem dX9_undo_18 : decode cX9_undo 18 = .ok (.invokevirtual 192, 3) := by decide +kernel
theorem dX9_undo_21 : decode cX9_undo 21 = .ok (.goto 5, 3) := by decide +kernel
theorem dX9_undo_24 : decode cX9_undo 24 = .ok (.bipush (-2), 2) := by decide +kernel
theorem dX9_undo_26 : decode cX9_undo 26 = .ok (.ireturn, 1) := by decide +kernel
theorem dX9_belief_0 : decode cX9_belief 0 = .ok (.aload_n 0, 1) := by decide +kernel
theorem dX9_belief_1 : decode cX9_belief 1 = .ok (.iconst 0, 1) := by decide +kernel
theorem dX9_belief_2 : decode cX9_belief 2 = .ok (.iload_n 1, 1) := by decide +kernel
theorem dX9_belief_3 : decode cX9_belief 3 = .ok (.invokevirtual 107, 3) := by decide +kernel
theorem dX9_belief_6 : decode cX9_belief 6 = .ok (.ifCond .eq 12, 3) := by decide +kernel
theorem dX9_belief_9 : decode cX9_belief 9 = .ok (.aload_n 0, 1) := by decide +kernel
theorem dX9_belief_10 : decode cX9_belief 10 = .ok (.iconst 1, 1) := by decide +kernel
theorem dX9_belief_11 : decode cX9_belief 11 = .ok (.iload_n 2, 1) := by decide +kernel
theorem dX9_belief_12 : decode cX9_belief 12 = .ok (.invokevirtual 107, 3) := by decide +kernel
theorem dX9_belief_15 : decode cX9_belief 15 = .ok (.ifCond .ne 5, 3) := by decide +kernel
theorem dX9_belief_18 : decode cX9_belief 18 = .ok (.iconst (-1), 1) := by decide +kernel
theorem dX9_belief_19 : decode cX9_belief 19 = .ok (.ireturn, 1) := by decide +kernel
theorem dX9_belief_20 : decode cX9_belief 20 = .ok (.aload_n 0, 1) := by decide +kernel
theorem dX9_belief_21 : decode cX9_belief 21 = .ok (.getfield 52, 3) := by decide +kernel
theorem dX9_belief_24 : decode cX9_belief 24 = .ok (.aload_n 0, 1) := by decide +kernel
theorem dX9_belief_25 : decode cX9_belief 25 = .ok (.getfield 74, 3) := by decide +kernel
theorem dX9_belief_28 : decode cX9_belief 28 = .ok (.invokevirtual 195, 3) := by decide +kernel
theorem dX9_belief_31 : decode cX9_belief 31 = .ok (.aload_n 0, 1) := by decide +kernel
theorem dX9_belief_32 : decode cX9_belief 32 = .ok (.getfield 52, 3) := by decide +kernel
theorem dX9_belief_35 : decode cX9_belief 35 = .ok (.iload_n 1, 1) := by decide +kernel
theorem dX9_belief_36 : decode cX9_belief 36 = .ok (.iload_n 2, 1) := by decide +kernel
theorem dX9_belief_37 : decode cX9_belief 37 = .ok (.invokevirtual 198, 3) := by decide +kernel
theorem dX9_belief_40 : decode cX9_belief 40 = .ok (.ifCond .eq 15, 3) := by decide +kernel
theorem dX9_belief_43 : decode cX9_belief 43 = .ok (.aload_n 0, 1) := by decide +kernel
theorem dX9_belief_44 : decode cX9_belief 44 = .ok (.getfield 52, 3) := by decide +kernel
theorem dX9_belief_47 : decode cX9_belief 47 = .ok (.iload_n 1, 1) := by decide +kernel
theorem dX9_belief_48 : decode cX9_belief 48 = .ok (.iload_n 2, 1) := by decide +kernel
theorem dX9_belief_49 : decode cX9_belief 49 = .ok (.invokevirtual 201, 3) := by decide +kernel
theorem dX9_belief_52 : decode cX9_belief 52 = .ok (.goto 5, 3) := by decide +kernel
theorem dX9_belief_55 : decode cX9_belief 55 = .ok (.bipush (-4), 2) := by decide +kernel
theorem dX9_belief_57 : decode cX9_belief 57 = .ok (.ireturn, 1) := by decide +kernel
theorem dX9_match_0 : decode cX9_match 0 = .ok (.aload_n 0, 1) := by decide +kernel
theorem dX9_match_1 : decode cX9_match 1 = .ok (.iload_n 1, 1) := by decide +kernel
theorem dX9_match_2 : decode cX9_match 2 = .ok (.iload_n 2, 1) := by decide +kernel
theorem dX9_match_3 : decode cX9_match 3 = .ok (.invokevirtual 107, 3) := by decide +kernel
theorem dX9_match_6 : decode cX9_match 6 = .ok (.ifCond .ne 5, 3) := by decide +kernel
theorem dX9_match_9 : decode cX9_match 9 = .ok (.iconst (-1), 1) := by decide +kernel
theorem dX9_match_10 : decode cX9_match 10 = .ok (.ireturn, 1) := by decide +kernel
theorem dX9_match_11 : decode cX9_match 11 = .ok (.aload_n 0, 1) := by decide +kernel
theorem dX9_match_12 : decode cX9_match 12 = .ok (.getfield 52, 3) := by decide +kernel
theorem dX9_match_15 : decode cX9_match 15 = .ok (.aload_n 0, 1) := by decide +kernel
theorem dX9_match_16 : decode cX9_match 16 = .ok (.getfield 74, 3) := by decide +kernel
theorem dX9_match_19 : decode cX9_match 19 = .ok (.invokevirtual 195, 3) := by decide +kernel
theorem dX9_match_22 : decode cX9_match 22 = .ok (.aload_n 0, 1) := by decide +kernel
theorem dX9_match_23 : decode cX9_match 23 = .ok (.getfield 52, 3) := by decide +kernel
theorem dX9_match_26 : decode cX9_match 26 = .ok (.iload_n 1, 1) := by decide +kernel
theorem dX9_match_27 : decode cX9_match 27 = .ok (.iload_n 2, 1) := by decide +kernel
theorem dX9_match_28 : decode cX9_match 28 = .ok (.invokevirtual 204, 3) := by decide +kernel
theorem dX9_match_31 : decode cX9_match 31 = .ok (.istore_n 3, 1) := by decide +kernel
theorem dX9_match_32 : decode cX9_match 32 = .ok (.iload_n 3, 1) := by decide +kernel
theorem dX9_match_33 : decode cX9_match 33 = .ok (.iconst (-1), 1) := by decide +kernel
theorem dX9_match_34 : decode cX9_match 34 = .ok (.if_icmp .ne 8, 3) := by decide +kernel
theorem dX9_match_37 : decode cX9_match 37 = .ok (.bipush (-4), 2) := by decide +kernel
theorem dX9_match_39 : decode cX9_match 39 = .ok (.goto 4, 3) := by decide +kernel
theorem dX9_match_42 : decode cX9_match 42 = .ok (.iload_n 3, 1) := by decide +kernel
theorem dX9_match_43 : decode cX9_match 43 = .ok (.ireturn, 1) := by decide +kernel
theorem dX9_told_0 : decode cX9_told 0 = .ok (.aload_n 0, 1) := by decide +kernel
theorem dX9_told_1 : decode cX9_told 1 = .ok (.iconst 0, 1) := by decide +kernel
theorem dX9_told_2 : decode cX9_told 2 = .ok (.iload_n 1, 1) := by decide +kernel
theorem dX9_told_3 : decode cX9_told 3 = .ok (.invokevirtual 128, 3) := by decide +kernel
theorem dX9_told_6 : decode cX9_told 6 = .ok (.ifCond .eq 8, 3) := by decide +kernel
theorem dX9_told_9 : decode cX9_told 9 = .ok (.iload_n 2, 1) := by decide +kernel
theorem dX9_told_10 : decode cX9_told 10 = .ok (.iconst (-1), 1) := by decide +kernel
theorem dX9_told_11 : decode cX9_told 11 = .ok (.if_icmp .ge 5, 3) := by decide +kernel
theorem dX9_told_14 : decode cX9_told 14 = .ok (.iconst (-1), 1) := by decide +kernel
theorem dX9_told_15 : decode cX9_told 15 = .ok (.ireturn, 1) := by decide +kernel
theorem dX9_told_16 : decode cX9_told 16 = .ok (.aload_n 0, 1) := by decide +kernel
theorem dX9_told_17 : decode cX9_told 17 = .ok (.getfield 52, 3) := by decide +kernel
theorem dX9_told_20 : decode cX9_told 20 = .ok (.aload_n 0, 1) := by decide +kernel
theorem dX9_told_21 : decode cX9_told 21 = .ok (.getfield 74, 3) := by decide +kernel
theorem dX9_told_24 : decode cX9_told 24 = .ok (.invokevirtual 195, 3) := by decide +kernel
theorem dX9_told_27 : decode cX9_told 27 = .ok (.aload_n 0, 1) := by decide +kernel
theorem dX9_told_28 : decode cX9_told 28 = .ok (.aload_n 0, 1) := by decide +kernel
theorem dX9_told_29 : decode cX9_told 29 = .ok (.getfield 74, 3) := by decide +kernel
theorem dX9_told_32 : decode cX9_told 32 = .ok (.iload_n 1, 1) := by decide +kernel
theorem dX9_told_33 : decode cX9_told 33 = .ok (.invokevirtual 207, 3) := by decide +kernel
theorem dX9_told_36 : decode cX9_told 36 = .ok (.aload_n 0, 1) := by decide +kernel
theorem dX9_told_37 : decode cX9_told 37 = .ok (.getfield 59, 3) := by decide +kernel
theorem dX9_told_40 : decode cX9_told 40 = .ok (.invokevirtual 211, 3) := by decide +kernel
theorem dX9_told_43 : decode cX9_told 43 = .ok (.ifCond .ne 6, 3) := by decide +kernel
theorem dX9_told_46 : decode cX9_told 46 = .ok (.bipush (-4), 2) := by decide +kernel
theorem dX9_told_48 : decode cX9_told 48 = .ok (.ireturn, 1) := by decide +kernel
theorem dX9_told_49 : decode cX9_told 49 = .ok (.iload_n 2, 1) := by decide +kernel
theorem dX9_told_50 : decode cX9_told 50 = .ok (.iconst (-1), 1) := by decide +kernel
theorem dX9_told_51 : decode cX9_told 51 = .ok (.if_icmp .ne 13, 3) := by decide +kernel
theorem dX9_told_54 : decode cX9_told 54 = .ok (.aload_n 0, 1) := by decide +kernel
theorem dX9_told_55 : decode cX9_told 55 = .ok (.getfield 59, 3) := by decide +kernel
theorem dX9_told_58 : decode cX9_told 58 = .ok (.invokevirtual 215, 3) := by decide +kernel
theorem dX9_told_61 : decode cX9_told 61 = .ok (.goto 11, 3) := by decide +kernel
theorem dX9_told_64 : decode cX9_told 64 = .ok (.aload_n 0, 1) := by decide +kernel
theorem dX9_told_65 : decode cX9_told 65 = .ok (.getfield 59, 3) := by decide +kernel
theorem dX9_told_68 : decode cX9_told 68 = .ok (.iload_n 2, 1) := by decide +kernel
theorem dX9_told_69 : decode cX9_told 69 = .ok (.invokevirtual 216, 3) := by decide +kernel
theorem dX9_told_72 : decode cX9_told 72 = .ok (.ireturn, 1) := by decide +kernel
theorem dX9_named_0 : decode cX9_named 0 = .ok (.aload_n 0, 1) := by decide +kernel
theorem dX9_named_1 : decode cX9_named 1 = .ok (.iconst 0, 1) := by decide +kernel
theorem dX9_named_2 : decode cX9_named 2 = .ok (.iload_n 1, 1) := by decide +kernel
theorem dX9_named_3 : decode cX9_named 3 = .ok (.invokevirtual 128, 3) := by decide +kernel
theorem dX9_named_6 : decode cX9_named 6 = .ok (.ifCond .ne 5, 3) := by decide +kernel
theorem dX9_named_9 : decode cX9_named 9 = .ok (.iconst (-1), 1) := by decide +kernel
theorem dX9_named_10 : decode cX9_named 10 = .ok (.ireturn, 1) := by decide +kernel
theorem dX9_named_11 : decode cX9_named 11 = .ok (.aload_n 0, 1) := by decide +kernel
theorem dX9_named_12 : decode cX9_named 12 = .ok (.getfield 74, 3) := by decide +kernel
theorem dX9_named_15 : decode cX9_named 15 = .ok (.iconst 0, 1) := by decide +kernel
theorem dX9_named_16 : decode cX9_named 16 = .ok (.invokevirtual 92, 3) := by decide +kernel
theorem dX9_named_19 : decode cX9_named 19 = .ok (.iload_n 1, 1) := by decide +kernel
theorem dX9_named_20 : decode cX9_named 20 = .ok (.invokevirtual 137, 3) := by decide +kernel
theorem dX9_named_23 : decode cX9_named 23 = .ok (.istore_n 2, 1) := by decide +kernel
theorem dX9_named_24 : decode cX9_named 24 = .ok (.iload_n 2, 1) := by decide +kernel
theorem dX9_named_25 : decode cX9_named 25 = .ok (.ifCond .eq 5, 3) := by decide +kernel
theorem dX9_named_28 : decode cX9_named 28 = .ok (.iload_n 2, 1) := by decide +kernel
theorem dX9_named_29 : decode cX9_named 29 = .ok (.ireturn, 1) := by decide +kernel
theorem dX9_named_30 : decode cX9_named 30 = .ok (.aload_n 0, 1) := by decide +kernel
theorem dX9_named_31 : decode cX9_named 31 = .ok (.getfield 52, 3) := by decide +kernel
theorem dX9_named_34 : decode cX9_named 34 = .ok (.aload_n 0, 1) := by decide +kernel
theorem dX9_named_35 : decode cX9_named 35 = .ok (.getfield 74, 3) := by decide +kernel
theorem dX9_named_38 : decode cX9_named 38 = .ok (.invokevirtual 195, 3) := by decide +kernel
theorem dX9_named_41 : decode cX9_named 41 = .ok (.aload_n 0, 1) := by decide +kernel
theorem dX9_named_42 : decode cX9_named 42 = .ok (.aload_n 0, 1) := by decide +kernel
theorem dX9_named_43 : decode cX9_named 43 = .ok (.getfield 74, 3) := by decide +kernel
theorem dX9_named_46 : decode cX9_named 46 = .ok (.iload_n 1, 1) := by decide +kernel
theorem dX9_named_47 : decode cX9_named 47 = .ok (.invokevirtual 207, 3) := by decide +kernel
theorem dX9_named_50 : decode cX9_named 50 = .ok (.aload_n 0, 1) := by decide +kernel
theorem dX9_named_51 : decode cX9_named 51 = .ok (.getfield 59, 3) := by decide +kernel
theorem dX9_named_54 : decode cX9_named 54 = .ok (.aload_n 0, 1) := by decide +kernel
theorem dX9_named_55 : decode cX9_named 55 = .ok (.getfield 74, 3) := by decide +kernel
theorem dX9_named_58 : decode cX9_named 58 = .ok (.iconst 1, 1) := by decide +kernel
theorem dX9_named_59 : decode cX9_named 59 = .ok (.invokevirtual 92, 3) := by decide +kernel
theorem dX9_named_62 : decode cX9_named 62 = .ok (.invokevirtual 219, 3) := by decide +kernel
theorem dX9_named_65 : decode cX9_named 65 = .ok (.ireturn, 1) := by decide +kernel
theorem dX9_comes_0 : decode cX9_comes 0 = .ok (.aload_n 0, 1) := by decide +kernel
theorem dX9_comes_1 : decode cX9_comes 1 = .ok (.iconst 0, 1) := by decide +kernel
theorem dX9_comes_2 : decode cX9_comes 2 = .ok (.iload_n 1, 1) := by decide +kernel
theorem dX9_comes_3 : decode cX9_comes 3 = .ok (.invokevirtual 107, 3) := by decide +kernel
theorem dX9_comes_6 : decode cX9_comes 6 = .ok (.ifCond .ne 5, 3) := by decide +kernel
theorem dX9_comes_9 : decode cX9_comes 9 = .ok (.iconst (-1), 1) := by decide +kernel
theorem dX9_comes_10 : decode cX9_comes 10 = .ok (.ireturn, 1) := by decide +kernel
theorem dX9_comes_11 : decode cX9_comes 11 = .ok (.aload_n 0, 1) := by decide +kernel
theorem dX9_comes_12 : decode cX9_comes 12 = .ok (.getfield 52, 3) := by decide +kernel
theorem dX9_comes_15 : decode cX9_comes 15 = .ok (.aload_n 0, 1) := by decide +kernel
theorem dX9_comes_16 : decode cX9_comes 16 = .ok (.getfield 74, 3) := by decide +kernel
theorem dX9_comes_19 : decode cX9_comes 19 = .ok (.invokevirtual 195, 3) := by decide +kernel
theorem dX9_comes_22 : decode cX9_comes 22 = .ok (.aload_n 0, 1) := by decide +kernel
theorem dX9_comes_23 : decode cX9_comes 23 = .ok (.getfield 66, 3) := by decide +kernel
theorem dX9_comes_26 : decode cX9_comes 26 = .ok (.aload_n 0, 1) := by decide +kernel
theorem dX9_comes_27 : decode cX9_comes 27 = .ok (.getfield 74, 3) := by decide +kernel
theorem dX9_comes_30 : decode cX9_comes 30 = .ok (.aload_n 0, 1) := by decide +kernel
theorem dX9_comes_31 : decode cX9_comes 31 = .ok (.getfield 52, 3) := by decide +kernel
theorem dX9_comes_34 : decode cX9_comes 34 = .ok (.iload_n 1, 1) := by decide +kernel
theorem dX9_comes_35 : decode cX9_comes 35 = .ok (.invokevirtual 223, 3) := by decide +kernel
theorem dX9_comes_38 : decode cX9_comes 38 = .ok (.iload_n 2, 1) := by decide +kernel
theorem dX9_comes_39 : decode cX9_comes 39 = .ok (.tableswitch 67 0 3 #[29, 40, 48, 59], 29) := by decide +kernel
theorem dX9_comes_68 : decode cX9_comes 68 = .ok (.ldc 227, 2) := by decide +kernel
theorem dX9_comes_70 : decode cX9_comes 70 = .ok (.aload_n 0, 1) := by decide +kernel
theorem dX9_comes_71 : decode cX9_comes 71 = .ok (.getfield 66, 3) := by decide +kernel
theorem dX9_comes_74 : decode cX9_comes 74 = .ok (.invokevirtual 228, 3) := by decide +kernel
theorem dX9_comes_77 : decode cX9_comes 77 = .ok (.iadd, 1) := by decide +kernel
theorem dX9_comes_78 : decode cX9_comes 78 = .ok (.ireturn, 1) := by decide +kernel
theorem dX9_comes_79 : decode cX9_comes 79 = .ok (.aload_n 0, 1) := by decide +kernel
theorem dX9_comes_80 : decode cX9_comes 80 = .ok (.getfield 66, 3) := by decide +kernel
theorem dX9_comes_83 : decode cX9_comes 83 = .ok (.invokevirtual 231, 3) := by decide +kernel
theorem dX9_comes_86 : decode cX9_comes 86 = .ok (.ireturn, 1) := by decide +kernel
theorem dX9_comes_87 : decode cX9_comes 87 = .ok (.ldc 227, 2) := by decide +kernel
theorem dX9_comes_89 : decode cX9_comes 89 = .ok (.aload_n 0, 1) := by decide +kernel
theorem dX9_comes_90 : decode cX9_comes 90 = .ok (.getfield 66, 3) := by decide +kernel
theorem dX9_comes_93 : decode cX9_comes 93 = .ok (.invokevirtual 234, 3) := by decide +kernel
theorem dX9_comes_96 : decode cX9_comes 96 = .ok (.iadd, 1) := by decide +kernel
theorem dX9_comes_97 : decode cX9_comes 97 = .ok (.ireturn, 1) := by decide +kernel
theorem dX9_comes_98 : decode cX9_comes 98 = .ok (.aload_n 0, 1) := by decide +kernel
theorem dX9_comes_99 : decode cX9_comes 99 = .ok (.getfield 66, 3) := by decide +kernel
theorem dX9_comes_102 : decode cX9_comes 102 = .ok (.invokevirtual 237, 3) := by decide +kernel
theorem dX9_comes_105 : decode cX9_comes 105 = .ok (.ireturn, 1) := by decide +kernel
theorem dX9_comes_106 : decode cX9_comes 106 = .ok (.iconst (-1), 1) := by decide +kernel
theorem dX9_comes_107 : decode cX9_comes 107 = .ok (.ireturn, 1) := by decide +kernel
theorem dX9_whole_0 : decode cX9_whole 0 = .ok (.aload_n 0, 1) := by decide +kernel
theorem dX9_whole_1 : decode cX9_whole 1 = .ok (.aload_n 0, 1) := by decide +kernel
theorem dX9_whole_2 : decode cX9_whole 2 = .ok (.getfield 74, 3) := by decide +kernel
theorem dX9_whole_5 : decode cX9_whole 5 = .ok (.iload_n 1, 1) := by decide +kernel
theorem dX9_whole_6 : decode cX9_whole 6 = .ok (.invokevirtual 240, 3) := by decide +kernel
theorem dX9_whole_9 : decode cX9_whole 9 = .ok (.ireturn, 1) := by decide +kernel
theorem dX9_shelve_0 : decode cX9_shelve 0 = .ok (.aload_n 0, 1) := by decide +kernel
theorem dX9_shelve_1 : decode cX9_shelve 1 = .ok (.getfield 45, 3) := by decide +kernel
theorem dX9_shelve_4 : decode cX9_shelve 4 = .ok (.iload_n 1, 1) := by decide +kernel
theorem dX9_shelve_5 : decode cX9_shelve 5 = .ok (.iload_n 2, 1) := by decide +kernel
theorem dX9_shelve_6 : decode cX9_shelve 6 = .ok (.invokevirtual 244, 3) := by decide +kernel
theorem dX9_shelve_9 : decode cX9_shelve 9 = .ok (.ifCond .eq 11, 3) := by decide +kernel
theorem dX9_shelve_12 : decode cX9_shelve 12 = .ok (.aload_n 0, 1) := by decide +kernel
theorem dX9_shelve_13 : decode cX9_shelve 13 = .ok (.iload_n 3, 1) := by decide +kernel
theorem dX9_shelve_14 : decode cX9_shelve 14 = .ok (.invokevirtual 247, 3) := by decide +kernel
theorem dX9_shelve_17 : decode cX9_shelve 17 = .ok (.ifCond .ne 5, 3) := by decide +kernel
theorem dX9_shelve_20 : decode cX9_shelve 20 = .ok (.iconst (-1), 1) := by decide +kernel
theorem dX9_shelve_21 : decode cX9_shelve 21 = .ok (.ireturn, 1) := by decide +kernel
theorem dX9_shelve_22 : decode cX9_shelve 22 = .ok (.iload_n 1, 1) := by decide +kernel
theorem dX9_shelve_23 : decode cX9_shelve 23 = .ok (.iload_n 3, 1) := by decide +kernel
theorem dX9_shelve_24 : decode cX9_shelve 24 = .ok (.invokestatic 250, 3) := by decide +kernel
theorem dX9_shelve_27 : decode cX9_shelve 27 = .ok (.ifCond .ne 6, 3) := by decide +kernel
theorem dX9_shelve_30 : decode cX9_shelve 30 = .ok (.bipush (-2), 2) := by decide +kernel
theorem dX9_shelve_32 : decode cX9_shelve 32 = .ok (.ireturn, 1) := by decide +kernel
theorem dX9_shelve_33 : decode cX9_shelve 33 = .ok (.aload_n 0, 1) := by decide +kernel
theorem dX9_shelve_34 : decode cX9_shelve 34 = .ok (.getfield 45, 3) := by decide +kernel
theorem dX9_shelve_37 : decode cX9_shelve 37 = .ok (.iload_n 1, 1) := by decide +kernel
theorem dX9_shelve_38 : decode cX9_shelve 38 = .ok (.iload_n 2, 1) := by decide +kernel
theorem dX9_shelve_39 : decode cX9_shelve 39 = .ok (.iload_n 3, 1) := by decide +kernel
theorem dX9_shelve_40 : decode cX9_shelve 40 = .ok (.invokevirtual 253, 3) := by decide +kernel
theorem dX9_shelve_43 : decode cX9_shelve 43 = .ok (.iconst 1, 1) := by decide +kernel
theorem dX9_shelve_44 : decode cX9_shelve 44 = .ok (.ireturn, 1) := by decide +kernel
theorem dX9_shelf_0 : decode cX9_shelf 0 = .ok (.aload_n 0, 1) := by decide +kernel
theorem dX9_shelf_1 : decode cX9_shelf 1 = .ok (.getfield 45, 3) := by decide +kernel
theorem dX9_shelf_4 : decode cX9_shelf 4 = .ok (.iload_n 1, 1) := by decide +kernel
theorem dX9_shelf_5 : decode cX9_shelf 5 = .ok (.iload_n 2, 1) := by decide +kernel
theorem dX9_shelf_6 : decode cX9_shelf 6 = .ok (.invokevirtual 244, 3) := by decide +kernel
theorem dX9_shelf_9 : decode cX9_shelf 9 = .ok (.ifCond .eq 15, 3) := by decide +kernel
theorem dX9_shelf_12 : decode cX9_shelf 12 = .ok (.aload_n 0, 1) := by decide +kernel
theorem dX9_shelf_13 : decode cX9_shelf 13 = .ok (.getfield 45, 3) := by decide +kernel
theorem dX9_shelf_16 : decode cX9_shelf 16 = .ok (.iload_n 1, 1) := by decide +kernel
theorem dX9_shelf_17 : decode cX9_shelf 17 = .ok (.iload_n 2, 1) := by decide +kernel
theorem dX9_shelf_18 : decode cX9_shelf 18 = .ok (.invokevirtual 254, 3) := by decide +kernel
theorem dX9_shelf_21 : decode cX9_shelf 21 = .ok (.goto 4, 3) := by decide +kernel
theorem dX9_shelf_24 : decode cX9_shelf 24 = .ok (.iconst (-1), 1) := by decide +kernel
theorem dX9_shelf_25 : decode cX9_shelf 25 = .ok (.ireturn, 1) := by decide +kernel
theorem dX9_day_0 : decode cX9_day 0 = .ok (.iload_n 1, 1) := by decide +kernel
theorem dX9_day_1 : decode cX9_day 1 = .ok (.iconst 0, 1) := by decide +kernel
theorem dX9_day_2 : decode cX9_day 2 = .ok (.sipush 9999, 3) := by decide +kernel
theorem dX9_day_5 : decode cX9_day 5 = .ok (.invokestatic 140, 3) := by decide +kernel
theorem dX9_day_8 : decode cX9_day 8 = .ok (.ifCond .eq 22, 3) := by decide +kernel
theorem dX9_day_11 : decode cX9_day 11 = .ok (.iload_n 2, 1) := by decide +kernel
theorem dX9_day_12 : decode cX9_day 12 = .ok (.iconst 1, 1) := by decide +kernel
theorem dX9_day_13 : decode cX9_day 13 = .ok (.bipush 20, 2) := by decide +kernel
theorem dX9_day_15 : decode cX9_day 15 = .ok (.invokestatic 140, 3) := by decide +kernel
theorem dX9_day_18 : decode cX9_day 18 = .ok (.ifCond .eq 12, 3) := by decide +kernel
theorem dX9_day_21 : decode cX9_day 21 = .ok (.iload_n 3, 1) := by decide +kernel
theorem dX9_day_22 : decode cX9_day 22 = .ok (.iconst 0, 1) := by decide +kernel
theorem dX9_day_23 : decode cX9_day 23 = .ok (.iconst 1, 1) := by decide +kernel
theorem dX9_day_24 : decode cX9_day 24 = .ok (.invokestatic 140, 3) := by decide +kernel
theorem dX9_day_27 : decode cX9_day 27 = .ok (.ifCond .ne 5, 3) := by decide +kernel
theorem dX9_day_30 : decode cX9_day 30 = .ok (.iconst (-1), 1) := by decide +kernel
theorem dX9_day_31 : decode cX9_day 31 = .ok (.ireturn, 1) := by decide +kernel
theorem dX9_day_32 : decode cX9_day 32 = .ok (.aload_n 0, 1) := by decide +kernel
theorem dX9_day_33 : decode cX9_day 33 = .ok (.getfield 26, 3) := by decide +kernel
theorem dX9_day_36 : decode cX9_day 36 = .ok (.aload_n 0, 1) := by decide +kernel
theorem dX9_day_37 : decode cX9_day 37 = .ok (.getfield 74, 3) := by decide +kernel
theorem dX9_day_40 : decode cX9_day 40 = .ok (.invokevirtual 101, 3) := by decide +kernel
theorem dX9_day_43 : decode cX9_day 43 = .ok (.iconst 0, 1) := by decide +kernel
theorem dX9_day_44 : decode cX9_day 44 = .ok (.istore 4, 2) := by decide +kernel
theorem dX9_day_46 : decode cX9_day 46 = .ok (.iload 4, 2) := by decide +kernel
theorem dX9_day_48 : decode cX9_day 48 = .ok (.iload_n 2, 1) := by decide +kernel
theorem dX9_day_49 : decode cX9_day 49 = .ok (.if_icmp .ge 19, 3) := by decide +kernel
theorem dX9_day_52 : decode cX9_day 52 = .ok (.aload_n 0, 1) := by decide +kernel
theorem dX9_day_53 : decode cX9_day 53 = .ok (.getfield 26, 3) := by decide +kernel
theorem dX9_day_56 : decode cX9_day 56 = .ok (.iload_n 1, 1) := by decide +kernel
theorem dX9_day_57 : decode cX9_day 57 = .ok (.iload 4, 2) := by decide +kernel
theorem dX9_day_59 : decode cX9_day 59 = .ok (.invokestatic 257, 3) := by decide +kernel
theorem dX9_day_62 : decode cX9_day 62 = .ok (.iinc 4 1, 3) := by decide +kernel
theorem dX9_day_65 : decode cX9_day 65 = .ok (.goto (-19), 3) := by decide +kernel
theorem dX9_day_68 : decode cX9_day 68 = .ok (.aload_n 0, 1) := by decide +kernel
theorem dX9_day_69 : decode cX9_day 69 = .ok (.aload_n 0, 1) := by decide +kernel
theorem dX9_day_70 : decode cX9_day 70 = .ok (.getfield 26, 3) := by decide +kernel
theorem dX9_day_73 : decode cX9_day 73 = .ok (.iload_n 3, 1) := by decide +kernel
theorem dX9_day_74 : decode cX9_day 74 = .ok (.invokevirtual 240, 3) := by decide +kernel
theorem dX9_day_77 : decode cX9_day 77 = .ok (.ireturn, 1) := by decide +kernel
theorem dX9_keep_0 : decode cX9_keep 0 = .ok (.aload_n 0, 1) := by decide +kernel
theorem dX9_keep_1 : decode cX9_keep 1 = .ok (.getfield 39, 3) := by decide +kernel
theorem dX9_keep_4 : decode cX9_keep 4 = .ok (.invokevirtual 192, 3) := by decide +kernel
theorem dX9_keep_7 : decode cX9_keep 7 = .ok (.iconst 2, 1) := by decide +kernel
theorem dX9_keep_8 : decode cX9_keep 8 = .ok (.if_icmp .lt 6, 3) := by decide +kernel
theorem dX9_keep_11 : decode cX9_keep 11 = .ok (.bipush (-3), 2) := by decide +kernel
theorem dX9_keep_13 : decode cX9_keep 13 = .ok (.ireturn, 1) := by decide +kernel
theorem dX9_keep_14 : decode cX9_keep 14 = .ok (.aload_n 0, 1) := by decide +kernel
theorem dX9_keep_15 : decode cX9_keep 15 = .ok (.getfield 39, 3) := by decide +kernel
theorem dX9_keep_18 : decode cX9_keep 18 = .ok (.aload_n 0, 1) := by decide +kernel
theorem dX9_keep_19 : decode cX9_keep 19 = .ok (.getfield 74, 3) := by decide +kernel
theorem dX9_keep_22 : decode cX9_keep 22 = .ok (.invokevirtual 144, 3) := by decide +kernel
theorem dX9_keep_25 : decode cX9_keep 25 = .ok (.aload_n 0, 1) := by decide +kernel
theorem dX9_keep_26 : decode cX9_keep 26 = .ok (.getfield 39, 3) := by decide +kernel
theorem dX9_keep_29 : decode cX9_keep 29 = .ok (.invokevirtual 192, 3) := by decide +kernel
theorem dX9_keep_32 : decode cX9_keep 32 = .ok (.ireturn, 1) := by decide +kernel
theorem dX9_back_0 : decode cX9_back 0 = .ok (.aload_n 0, 1) := by decide +kernel
theorem dX9_back_1 : decode cX9_back 1 = .ok (.getfield 39, 3) := by decide +kernel
theorem dX9_back_4 : decode cX9_back 4 = .ok (.aload_n 0, 1) := by decide +kernel
theorem dX9_back_5 : decode cX9_back 5 = .ok (.getfield 74, 3) := by decide +kernel
theorem dX9_back_8 : decode cX9_back 8 = .ok (.invokevirtual 188, 3) := by decide +kernel
theorem dX9_back_11 : decode cX9_back 11 = .ok (.ifCond .ne 6, 3) := by decide +kernel
theorem dX9_back_14 : decode cX9_back 14 = .ok (.bipush (-2), 2) := by decide +kernel
theorem dX9_back_16 : decode cX9_back 16 = .ok (.ireturn, 1) := by decide +kernel
theorem dX9_back_17 : decode cX9_back 17 = .ok (.aload_n 0, 1) := by decide +kernel
theorem dX9_back_18 : decode cX9_back 18 = .ok (.getfield 35, 3) := by decide +kernel
theorem dX9_back_21 : decode cX9_back 21 = .ok (.invokevirtual 106, 3) := by decide +kernel
theorem dX9_back_24 : decode cX9_back 24 = .ok (.aload_n 0, 1) := by decide +kernel
theorem dX9_back_25 : decode cX9_back 25 = .ok (.getfield 39, 3) := by decide +kernel
theorem dX9_back_28 : decode cX9_back 28 = .ok (.invokevirtual 192, 3) := by decide +kernel
theorem dX9_back_31 : decode cX9_back 31 = .ok (.ireturn, 1) := by decide +kernel
theorem dX9_count_0 : decode cX9_count 0 = .ok (.iload_n 1, 1) := by decide +kernel
theorem dX9_count_1 : decode cX9_count 1 = .ok (.tableswitch 151 0 9 #[55, 67, 79, 91, 103, 111, 119, 127, 135, 143], 55) := by decide +kernel
theorem dX9_count_56 : decode cX9_count 56 = .ok (.aload_n 0, 1) := by decide +kernel
theorem dX9_count_57 : decode cX9_count 57 = .ok (.getfield 74, 3) := by decide +kernel
theorem dX9_count_60 : decode cX9_count 60 = .ok (.iconst 0, 1) := by decide +kernel
theorem dX9_count_61 : decode cX9_count 61 = .ok (.invokevirtual 92, 3) := by decide +kernel
theorem dX9_count_64 : decode cX9_count 64 = .ok (.invokevirtual 96, 3) := by decide +kernel
theorem dX9_count_67 : decode cX9_count 67 = .ok (.ireturn, 1) := by decide +kernel
theorem dX9_count_68 : decode cX9_count 68 = .ok (.aload_n 0, 1) := by decide +kernel
theorem dX9_count_69 : decode cX9_count 69 = .ok (.getfield 74, 3) := by decide +kernel
theorem dX9_count_72 : decode cX9_count 72 = .ok (.iconst 1, 1) := by decide +kernel
theorem dX9_count_73 : decode cX9_count 73 = .ok (.invokevirtual 92, 3) := by decide +kernel
theorem dX9_count_76 : decode cX9_count 76 = .ok (.invokevirtual 96, 3) := by decide +kernel
theorem dX9_count_79 : decode cX9_count 79 = .ok (.ireturn, 1) := by decide +kernel
theorem dX9_count_80 : decode cX9_count 80 = .ok (.aload_n 0, 1) := by decide +kernel
theorem dX9_count_81 : decode cX9_count 81 = .ok (.getfield 74, 3) := by decide +kernel
theorem dX9_count_84 : decode cX9_count 84 = .ok (.iconst 0, 1) := by decide +kernel
theorem dX9_count_85 : decode cX9_count 85 = .ok (.invokevirtual 92, 3) := by decide +kernel
theorem dX9_count_88 : decode cX9_count 88 = .ok (.invokevirtual 161, 3) := by decide +kernel
theorem dX9_count_91 : decode cX9_count 91 = .ok (.ireturn, 1) := by decide +kernel
theorem dX9_count_92 : decode cX9_count 92 = .ok (.aload_n 0, 1) := by decide +kernel
theorem dX9_count_93 : decode cX9_count 93 = .ok (.getfield 74, 3) := by decide +kernel
theorem dX9_count_96 : decode cX9_count 96 = .ok (.iconst 1, 1) := by decide +kernel
theorem dX9_count_97 : decode cX9_count 97 = .ok (.invokevirtual 92, 3) := by decide +kernel
theorem dX9_count_100 : decode cX9_count 100 = .ok (.invokevirtual 161, 3) := by decide +kernel
theorem dX9_count_103 : decode cX9_count 103 = .ok (.ireturn, 1) := by decide +kernel
theorem dX9_count_104 : decode cX9_count 104 = .ok (.aload_n 0, 1) := by decide +kernel
theorem dX9_count_105 : decode cX9_count 105 = .ok (.getfield 74, 3) := by decide +kernel
theorem dX9_count_108 : decode cX9_count 108 = .ok (.invokevirtual 176, 3) := by decide +kernel
theorem dX9_count_111 : decode cX9_count 111 = .ok (.ireturn, 1) := by decide +kernel
theorem dX9_count_112 : decode cX9_count 112 = .ok (.aload_n 0, 1) := by decide +kernel
theorem dX9_count_113 : decode cX9_count 113 = .ok (.getfield 74, 3) := by decide +kernel
theorem dX9_count_116 : decode cX9_count 116 = .ok (.invokevirtual 179, 3) := by decide +kernel
theorem dX9_count_119 : decode cX9_count 119 = .ok (.ireturn, 1) := by decide +kernel
theorem dX9_count_120 : decode cX9_count 120 = .ok (.aload_n 0, 1) := by decide +kernel
theorem dX9_count_121 : decode cX9_count 121 = .ok (.getfield 35, 3) := by decide +kernel
theorem dX9_count_124 : decode cX9_count 124 = .ok (.invokevirtual 192, 3) := by decide +kernel
theorem dX9_count_127 : decode cX9_count 127 = .ok (.ireturn, 1) := by decide +kernel
theorem dX9_count_128 : decode cX9_count 128 = .ok (.aload_n 0, 1) := by decide +kernel
theorem dX9_count_129 : decode cX9_count 129 = .ok (.getfield 39, 3) := by decide +kernel
theorem dX9_count_132 : decode cX9_count 132 = .ok (.invokevirtual 192, 3) := by decide +kernel
theorem dX9_count_135 : decode cX9_count 135 = .ok (.ireturn, 1) := by decide +kernel
theorem dX9_count_136 : decode cX9_count 136 = .ok (.aload_n 0, 1) := by decide +kernel
theorem dX9_count_137 : decode cX9_count 137 = .ok (.getfield 10, 3) := by decide +kernel
theorem dX9_count_140 : decode cX9_count 140 = .ok (.invokevirtual 81, 3) := by decide +kernel
theorem dX9_count_143 : decode cX9_count 143 = .ok (.ireturn, 1) := by decide +kernel
theorem dX9_count_144 : decode cX9_count 144 = .ok (.aload_n 0, 1) := by decide +kernel
theorem dX9_count_145 : decode cX9_count 145 = .ok (.getfield 45, 3) := by decide +kernel
theorem dX9_count_148 : decode cX9_count 148 = .ok (.invokevirtual 261, 3) := by decide +kernel
theorem dX9_count_151 : decode cX9_count 151 = .ok (.ireturn, 1) := by decide +kernel
theorem dX9_count_152 : decode cX9_count 152 = .ok (.iconst (-1), 1) := by decide +kernel
theorem dX9_count_153 : decode cX9_count 153 = .ok (.ireturn, 1) := by decide +kernel
theorem dX9_startTowns_0 : decode cX9_startTowns 0 = .ok (.new 7, 3) := by decide +kernel
theorem dX9_startTowns_3 : decode cX9_startTowns 3 = .ok (.dup, 1) := by decide +kernel
theorem dX9_startTowns_4 : decode cX9_startTowns 4 = .ok (.invokespecial 9, 3) := by decide +kernel
theorem dX9_startTowns_7 : decode cX9_startTowns 7 = .ok (.astore_n 0, 1) := by decide +kernel
theorem dX9_startTowns_8 : decode cX9_startTowns 8 = .ok (.iconst 0, 1) := by decide +kernel
theorem dX9_startTowns_9 : decode cX9_startTowns 9 = .ok (.istore_n 1, 1) := by decide +kernel
theorem dX9_startTowns_10 : decode cX9_startTowns 10 = .ok (.iload_n 1, 1) := by decide +kernel
theorem dX9_startTowns_11 : decode cX9_startTowns 11 = .ok (.ldc_w 264, 3) := by decide +kernel
theorem dX9_startTowns_14 : decode cX9_startTowns 14 = .ok (.invokevirtual 266, 3) := by decide +kernel
theorem dX9_startTowns_17 : decode cX9_startTowns 17 = .ok (.if_icmp .ge 21, 3) := by decide +kernel
theorem dX9_startTowns_20 : decode cX9_startTowns 20 = .ok (.aload_n 0, 1) := by decide +kernel
theorem dX9_startTowns_21 : decode cX9_startTowns 21 = .ok (.ldc_w 264, 3) := by decide +kernel
theorem dX9_startTowns_24 : decode cX9_startTowns 24 = .ok (.iload_n 1, 1) := by decide +kernel
theorem dX9_startTowns_25 : decode cX9_startTowns 25 = .ok (.invokevirtual 269, 3) := by decide +kernel
theorem dX9_startTowns_28 : decode cX9_startTowns 28 = .ok (.invokevirtual 77, 3) := by decide +kernel
theorem dX9_startTowns_31 : decode cX9_startTowns 31 = .ok (.pop, 1) := by decide +kernel
theorem dX9_startTowns_32 : decode cX9_startTowns 32 = .ok (.iinc 1 1, 3) := by decide +kernel
theorem dX9_startTowns_35 : decode cX9_startTowns 35 = .ok (.goto (-25), 3) := by decide +kernel
theorem dX9_startTowns_38 : decode cX9_startTowns 38 = .ok (.new 23, 3) := by decide +kernel
theorem dX9_startTowns_41 : decode cX9_startTowns 41 = .ok (.dup, 1) := by decide +kernel
theorem dX9_startTowns_42 : decode cX9_startTowns 42 = .ok (.invokespecial 25, 3) := by decide +kernel
theorem dX9_startTowns_45 : decode cX9_startTowns 45 = .ok (.astore_n 1, 1) := by decide +kernel
theorem dX9_startTowns_46 : decode cX9_startTowns 46 = .ok (.new 16, 3) := by decide +kernel
theorem dX9_startTowns_49 : decode cX9_startTowns 49 = .ok (.dup, 1) := by decide +kernel
theorem dX9_startTowns_50 : decode cX9_startTowns 50 = .ok (.invokespecial 18, 3) := by decide +kernel
theorem dX9_startTowns_53 : decode cX9_startTowns 53 = .ok (.aload_n 0, 1) := by decide +kernel
theorem dX9_startTowns_54 : decode cX9_startTowns 54 = .ok (.aload_n 1, 1) := by decide +kernel
theorem dX9_startTowns_55 : decode cX9_startTowns 55 = .ok (.invokevirtual 88, 3) := by decide +kernel
theorem dX9_startTowns_58 : decode cX9_startTowns 58 = .ok (.pop, 1) := by decide +kernel
theorem dX9_startTowns_59 : decode cX9_startTowns 59 = .ok (.aload_n 1, 1) := by decide +kernel
theorem dX9_startTowns_60 : decode cX9_startTowns 60 = .ok (.areturn, 1) := by decide +kernel
theorem dX9_isWithin_0 : decode cX9_isWithin 0 = .ok (.iload_n 0, 1) := by decide +kernel
theorem dX9_isWithin_1 : decode cX9_isWithin 1 = .ok (.iload_n 1, 1) := by decide +kernel
theorem dX9_isWithin_2 : decode cX9_isWithin 2 = .ok (.if_icmp .lt 12, 3) := by decide +kernel
theorem dX9_isWithin_5 : decode cX9_isWithin 5 = .ok (.iload_n 0, 1) := by decide +kernel
theorem dX9_isWithin_6 : decode cX9_isWithin 6 = .ok (.iload_n 2, 1) := by decide +kernel
theorem dX9_isWithin_7 : decode cX9_isWithin 7 = .ok (.if_icmp .gt 7, 3) := by decide +kernel
theorem dX9_isWithin_10 : decode cX9_isWithin 10 = .ok (.iconst 1, 1) := by decide +kernel
theorem dX9_isWithin_11 : decode cX9_isWithin 11 = .ok (.goto 4, 3) := by decide +kernel
theorem dX9_isWithin_14 : decode cX9_isWithin 14 = .ok (.iconst 0, 1) := by decide +kernel
theorem dX9_isWithin_15 : decode cX9_isWithin 15 = .ok (.ireturn, 1) := by decide +kernel
theorem dX9_isRadius_0 : decode cX9_isRadius 0 = .ok (.iload_n 0, 1) := by decide +kernel
theorem dX9_isRadius_1 : decode cX9_isRadius 1 = .ok (.iconst 1, 1) := by decide +kernel
theorem dX9_isRadius_2 : decode cX9_isRadius 2 = .ok (.if_icmp .lt 13, 3) := by decide +kernel
theorem dX9_isRadius_5 : decode cX9_isRadius 5 = .ok (.iload_n 0, 1) := by decide +kernel
theorem dX9_isRadius_6 : decode cX9_isRadius 6 = .ok (.bipush 20, 2) := by decide +kernel
theorem dX9_isRadius_8 : decode cX9_isRadius 8 = .ok (.if_icmp .gt 7, 3) := by decide +kernel
theorem dX9_isRadius_11 : decode cX9_isRadius 11 = .ok (.iconst 1, 1) := by decide +kernel
theorem dX9_isRadius_12 : decode cX9_isRadius 12 = .ok (.goto 4, 3) := by decide +kernel
theorem dX9_isRadius_15 : decode cX9_isRadius 15 = .ok (.iconst 0, 1) := by decide +kernel
theorem dX9_isRadius_16 : decode cX9_isRadius 16 = .ok (.ireturn, 1) := by decide +kernel
theorem dX9_isRounds_0 : decode cX9_isRounds 0 = .ok (.iload_n 0, 1) := by decide +kernel
theorem dX9_isRounds_1 : decode cX9_isRounds 1 = .ok (.ifCond .lt 12, 3) := by decide +kernel
theorem dX9_isRounds_4 : decode cX9_isRounds 4 = .ok (.iload_n 0, 1) := by decide +kernel
theorem dX9_isRounds_5 : decode cX9_isRounds 5 = .ok (.iconst 3, 1) := by decide +kernel
theorem dX9_isRounds_6 : decode cX9_isRounds 6 = .ok (.if_icmp .gt 7, 3) := by decide +kernel
theorem dX9_isRounds_9 : decode cX9_isRounds 9 = .ok (.iconst 1, 1) := by decide +kernel
theorem dX9_isRounds_10 : decode cX9_isRounds 10 = .ok (.goto 4, 3) := by decide +kernel
theorem dX9_isRounds_13 : decode cX9_isRounds 13 = .ok (.iconst 0, 1) := by decide +kernel
theorem dX9_isRounds_14 : decode cX9_isRounds 14 = .ok (.ireturn, 1) := by decide +kernel
theorem dX9_hasMeeting_0 : decode cX9_hasMeeting 0 = .ok (.iload_n 1, 1) := by decide +kernel
theorem dX9_hasMeeting_1 : decode cX9_hasMeeting 1 = .ok (.iconst 0, 1) := by decide +kernel
theorem dX9_hasMeeting_2 : decode cX9_hasMeeting 2 = .ok (.iconst 1, 1) := by decide +kernel
theorem dX9_hasMeeting_3 : decode cX9_hasMeeting 3 = .ok (.invokestatic 140, 3) := by decide +kernel
theorem dX9_hasMeeting_6 : decode cX9_hasMeeting 6 = .ok (.ifCond .eq 22, 3) := by decide +kernel
theorem dX9_hasMeeting_9 : decode cX9_hasMeeting 9 = .ok (.aload_n 0, 1) := by decide +kernel
theorem dX9_hasMeeting_10 : decode cX9_hasMeeting 10 = .ok (.getfield 74, 3) := by decide +kernel
theorem dX9_hasMeeting_13 : decode cX9_hasMeeting 13 = .ok (.iload_n 1, 1) := by decide +kernel
theorem dX9_hasMeeting_14 : decode cX9_hasMeeting 14 = .ok (.invokevirtual 92, 3) := by decide +kernel
theorem dX9_hasMeeting_17 : decode cX9_hasMeeting 17 = .ok (.iload_n 2, 1) := by decide +kernel
theorem dX9_hasMeeting_18 : decode cX9_hasMeeting 18 = .ok (.invokevirtual 273, 3) := by decide +kernel
theorem dX9_hasMeeting_21 : decode cX9_hasMeeting 21 = .ok (.ifCond .eq 7, 3) := by decide +kernel
theorem dX9_hasMeeting_24 : decode cX9_hasMeeting 24 = .ok (.iconst 1, 1) := by decide +kernel
theorem dX9_hasMeeting_25 : decode cX9_hasMeeting 25 = .ok (.goto 4, 3) := by decide +kernel
theorem dX9_hasMeeting_28 : decode cX9_hasMeeting 28 = .ok (.iconst 0, 1) := by decide +kernel
theorem dX9_hasMeeting_29 : decode cX9_hasMeeting 29 = .ok (.ireturn, 1) := by decide +kernel
theorem dX9_hasStreet_0 : decode cX9_hasStreet 0 = .ok (.iload_n 1, 1) := by decide +kernel
theorem dX9_hasStreet_1 : decode cX9_hasStreet 1 = .ok (.iconst 0, 1) := by decide +kernel
theorem dX9_hasStreet_2 : decode cX9_hasStreet 2 = .ok (.iconst 1, 1) := by decide +kernel
theorem dX9_hasStreet_3 : decode cX9_hasStreet 3 = .ok (.invokestatic 140, 3) := by decide +kernel
theorem dX9_hasStreet_6 : decode cX9_hasStreet 6 = .ok (.ifCond .eq 22, 3) := by decide +kernel
theorem dX9_hasStreet_9 : decode cX9_hasStreet 9 = .ok (.aload_n 0, 1) := by decide +kernel
theorem dX9_hasStreet_10 : decode cX9_hasStreet 10 = .ok (.getfield 74, 3) := by decide +kernel
theorem dX9_hasStreet_13 : decode cX9_hasStreet 13 = .ok (.iload_n 1, 1) := by decide +kernel
theorem dX9_hasStreet_14 : decode cX9_hasStreet 14 = .ok (.invokevirtual 92, 3) := by decide +kernel
theorem dX9_hasStreet_17 : decode cX9_hasStreet 17 = .ok (.iload_n 2, 1) := by decide +kernel
theorem dX9_hasStreet_18 : decode cX9_hasStreet 18 = .ok (.invokevirtual 275, 3) := by decide +kernel
theorem dX9_hasStreet_21 : decode cX9_hasStreet 21 = .ok (.ifCond .eq 7, 3) := by decide +kernel
theorem dX9_hasStreet_24 : decode cX9_hasStreet 24 = .ok (.iconst 1, 1) := by decide +kernel
theorem dX9_hasStreet_25 : decode cX9_hasStreet 25 = .ok (.goto 4, 3) := by decide +kernel
theorem dX9_hasStreet_28 : decode cX9_hasStreet 28 = .ok (.iconst 0, 1) := by decide +kernel
theorem dX9_hasStreet_29 : decode cX9_hasStreet 29 = .ok (.ireturn, 1) := by decide +kernel
theorem dX9_hasThing_0 : decode cX9_hasThing 0 = .ok (.iload_n 1, 1) := by decide +kernel
theorem dX9_hasThing_1 : decode cX9_hasThing 1 = .ok (.iconst 0, 1) := by decide +kernel
theorem dX9_hasThing_2 : decode cX9_hasThing 2 = .ok (.bipush 15, 2) := by decide +kernel
theorem dX9_hasThing_4 : decode cX9_hasThing 4 = .ok (.invokestatic 140, 3) := by decide +kernel
theorem dX9_hasThing_7 : decode cX9_hasThing 7 = .ok (.ifCond .ne 5, 3) := by decide +kernel
theorem dX9_hasThing_10 : decode cX9_hasThing 10 = .ok (.iconst 0, 1) := by decide +kernel
theorem dX9_hasThing_11 : decode cX9_hasThing 11 = .ok (.ireturn, 1) := by decide +kernel
theorem dX9_hasThing_12 : decode cX9_hasThing 12 = .ok (.iload_n 1, 1) := by decide +kernel
theorem dX9_hasThing_13 : decode cX9_hasThing 13 = .ok (.bipush 8, 2) := by decide +kernel
theorem dX9_hasThing_15 : decode cX9_hasThing 15 = .ok (.if_icmp .ge 12, 3) := by decide +kernel
theorem dX9_hasThing_18 : decode cX9_hasThing 18 = .ok (.aload_n 0, 1) := by decide +kernel
theorem dX9_hasThing_19 : decode cX9_hasThing 19 = .ok (.iconst 0, 1) := by decide +kernel
theorem dX9_hasThing_20 : decode cX9_hasThing 20 = .ok (.iload_n 1, 1) := by decide +kernel
theorem dX9_hasThing_21 : decode cX9_hasThing 21 = .ok (.invokevirtual 107, 3) := by decide +kernel
theorem dX9_hasThing_24 : decode cX9_hasThing 24 = .ok (.goto 12, 3) := by decide +kernel
theorem dX9_hasThing_27 : decode cX9_hasThing 27 = .ok (.aload_n 0, 1) := by decide +kernel
theorem dX9_hasThing_28 : decode cX9_hasThing 28 = .ok (.iconst 0, 1) := by decide +kernel
theorem dX9_hasThing_29 : decode cX9_hasThing 29 = .ok (.iload_n 1, 1) := by decide +kernel
theorem dX9_hasThing_30 : decode cX9_hasThing 30 = .ok (.bipush 8, 2) := by decide +kernel
theorem dX9_hasThing_32 : decode cX9_hasThing 32 = .ok (.isub, 1) := by decide +kernel
theorem dX9_hasThing_33 : decode cX9_hasThing 33 = .ok (.invokevirtual 128, 3) := by decide +kernel
theorem dX9_hasThing_36 : decode cX9_hasThing 36 = .ok (.ireturn, 1) := by decide +kernel
theorem dX9_express_0 : decode cX9_express 0 = .ok (.aload_n 1, 1) := by decide +kernel
theorem dX9_express_1 : decode cX9_express 1 = .ok (.iconst 0, 1) := by decide +kernel
theorem dX9_express_2 : decode cX9_express 2 = .ok (.invokevirtual 92, 3) := by decide +kernel
theorem dX9_express_5 : decode cX9_express 5 = .ok (.astore_n 3, 1) := by decide +kernel
theorem dX9_express_6 : decode cX9_express 6 = .ok (.aload_n 0, 1) := by decide +kernel
theorem dX9_express_7 : decode cX9_express 7 = .ok (.getfield 52, 3) := by decide +kernel
theorem dX9_express_10 : decode cX9_express 10 = .ok (.iconst 0, 1) := by decide +kernel
theorem dX9_express_11 : decode cX9_express 11 = .ok (.aload_n 3, 1) := by decide +kernel
theorem dX9_express_12 : decode cX9_express 12 = .ok (.iload_n 2, 1) := by decide +kernel
theorem dX9_express_13 : decode cX9_express 13 = .ok (.invokevirtual 131, 3) := by decide +kernel
theorem dX9_express_16 : decode cX9_express 16 = .ok (.invokevirtual 204, 3) := by decide +kernel
theorem dX9_express_19 : decode cX9_express 19 = .ok (.istore 4, 2) := by decide +kernel
theorem dX9_express_21 : decode cX9_express 21 = .ok (.aload_n 0, 1) := by decide +kernel
theorem dX9_express_22 : decode cX9_express 22 = .ok (.getfield 52, 3) := by decide +kernel
theorem dX9_express_25 : decode cX9_express 25 = .ok (.iconst 0, 1) := by decide +kernel
theorem dX9_express_26 : decode cX9_express 26 = .ok (.aload_n 3, 1) := by decide +kernel
theorem dX9_express_27 : decode cX9_express 27 = .ok (.iload_n 2, 1) := by decide +kernel
theorem dX9_express_28 : decode cX9_express 28 = .ok (.invokevirtual 134, 3) := by decide +kernel
theorem dX9_express_31 : decode cX9_express 31 = .ok (.invokevirtual 204, 3) := by decide +kernel
theorem dX9_express_34 : decode cX9_express 34 = .ok (.istore 5, 2) := by decide +kernel
theorem dX9_express_36 : decode cX9_express 36 = .ok (.aload_n 0, 1) := by decide +kernel
theorem dX9_express_37 : decode cX9_express 37 = .ok (.getfield 59, 3) := by decide +kernel
theorem dX9_express_40 : decode cX9_express 40 = .ok (.aload_n 1, 1) := by decide +kernel
theorem dX9_express_41 : decode cX9_express 41 = .ok (.iconst 1, 1) := by decide +kernel
theorem dX9_express_42 : decode cX9_express 42 = .ok (.invokevirtual 92, 3) := by decide +kernel
theorem dX9_express_45 : decode cX9_express 45 = .ok (.iload 4, 2) := by decide +kernel
theorem dX9_express_47 : decode cX9_express 47 = .ok (.iload 5, 2) := by decide +kernel
theorem dX9_express_49 : decode cX9_express 49 = .ok (.invokevirtual 277, 3) := by decide +kernel
theorem dX9_express_52 : decode cX9_express 52 = .ok (.return_, 1) := by decide +kernel
theorem dX9_numberOfWhole_0 : decode cX9_numberOfWhole 0 = .ok (.iload_n 2, 1) := by decide +kernel
theorem dX9_numberOfWhole_1 : decode cX9_numberOfWhole 1 = .ok (.iconst 0, 1) := by decide +kernel
theorem dX9_numberOfWhole_2 : decode cX9_numberOfWhole 2 = .ok (.iconst 5, 1) := by decide +kernel
theorem dX9_numberOfWhole_3 : decode cX9_numberOfWhole 3 = .ok (.invokestatic 140, 3) := by decide +kernel
theorem dX9_numberOfWhole_6 : decode cX9_numberOfWhole 6 = .ok (.ifCond .ne 5, 3) := by decide +kernel
theorem dX9_numberOfWhole_9 : decode cX9_numberOfWhole 9 = .ok (.iconst (-1), 1) := by decide +kernel
theorem dX9_numberOfWhole_10 : decode cX9_numberOfWhole 10 = .ok (.ireturn, 1) := by decide +kernel
theorem dX9_numberOfWhole_11 : decode cX9_numberOfWhole 11 = .ok (.aload_n 0, 1) := by decide +kernel
theorem dX9_numberOfWhole_12 : decode cX9_numberOfWhole 12 = .ok (.getfield 52, 3) := by decide +kernel
theorem dX9_numberOfWhole_15 : decode cX9_numberOfWhole 15 = .ok (.aload_n 1, 1) := by decide +kernel
theorem dX9_numberOfWhole_16 : decode cX9_numberOfWhole 16 = .ok (.invokevirtual 195, 3) := by decide +kernel
theorem dX9_numberOfWhole_19 : decode cX9_numberOfWhole 19 = .ok (.iload_n 2, 1) := by decide +kernel
theorem dX9_numberOfWhole_20 : decode cX9_numberOfWhole 20 = .ok (.tableswitch 89 0 4 #[36, 44, 53, 69, 79], 36) := by decide +kernel
theorem dX9_numberOfWhole_56 : decode cX9_numberOfWhole 56 = .ok (.aload_n 0, 1) := by decide +kernel
theorem dX9_numberOfWhole_57 : decode cX9_numberOfWhole 57 = .ok (.getfield 52, 3) := by decide +kernel
theorem dX9_numberOfWhole_60 : decode cX9_numberOfWhole 60 = .ok (.invokevirtual 280, 3) := by decide +kernel
theorem dX9_numberOfWhole_63 : decode cX9_numberOfWhole 63 = .ok (.ireturn, 1) := by decide +kernel
theorem dX9_numberOfWhole_64 : decode cX9_numberOfWhole 64 = .ok (.aload_n 0, 1) := by decide +kernel
theorem dX9_numberOfWhole_65 : decode cX9_numberOfWhole 65 = .ok (.getfield 52, 3) := by decide +kernel
theorem dX9_numberOfWhole_68 : decode cX9_numberOfWhole 68 = .ok (.aload_n 1, 1) := by decide +kernel
theorem dX9_numberOfWhole_69 : decode cX9_numberOfWhole 69 = .ok (.invokevirtual 283, 3) := by decide +kernel
theorem dX9_numberOfWhole_72 : decode cX9_numberOfWhole 72 = .ok (.ireturn, 1) := by decide +kernel
theorem dX9_numberOfWhole_73 : decode cX9_numberOfWhole 73 = .ok (.aload_n 0, 1) := by decide +kernel
theorem dX9_numberOfWhole_74 : decode cX9_numberOfWhole 74 = .ok (.getfield 52, 3) := by decide +kernel
theorem dX9_numberOfWhole_77 : decode cX9_numberOfWhole 77 = .ok (.invokevirtual 287, 3) := by decide +kernel
theorem dX9_numberOfWhole_80 : decode cX9_numberOfWhole 80 = .ok (.ifCond .eq 7, 3) := by decide +kernel
theorem dX9_numberOfWhole_83 : decode cX9_numberOfWhole 83 = .ok (.iconst 1, 1) := by decide +kernel
theorem dX9_numberOfWhole_84 : decode cX9_numberOfWhole 84 = .ok (.goto 4, 3) := by decide +kernel
theorem dX9_numberOfWhole_87 : decode cX9_numberOfWhole 87 = .ok (.iconst 0, 1) := by decide +kernel
theorem dX9_numberOfWhole_88 : decode cX9_numberOfWhole 88 = .ok (.ireturn, 1) := by decide +kernel
theorem dX9_numberOfWhole_89 : decode cX9_numberOfWhole 89 = .ok (.aload_n 0, 1) := by decide +kernel
theorem dX9_numberOfWhole_90 : decode cX9_numberOfWhole 90 = .ok (.getfield 52, 3) := by decide +kernel
theorem dX9_numberOfWhole_93 : decode cX9_numberOfWhole 93 = .ok (.aload_n 1, 1) := by decide +kernel
theorem dX9_numberOfWhole_94 : decode cX9_numberOfWhole 94 = .ok (.iconst 0, 1) := by decide +kernel
theorem dX9_numberOfWhole_95 : decode cX9_numberOfWhole 95 = .ok (.invokevirtual 290, 3) := by decide +kernel
theorem dX9_numberOfWhole_98 : decode cX9_numberOfWhole 98 = .ok (.ireturn, 1) := by decide +kernel
theorem dX9_numberOfWhole_99 : decode cX9_numberOfWhole 99 = .ok (.aload_n 0, 1) := by decide +kernel
theorem dX9_numberOfWhole_100 : decode cX9_numberOfWhole 100 = .ok (.getfield 52, 3) := by decide +kernel
theorem dX9_numberOfWhole_103 : decode cX9_numberOfWhole 103 = .ok (.aload_n 1, 1) := by decide +kernel
theorem dX9_numberOfWhole_104 : decode cX9_numberOfWhole 104 = .ok (.iconst 1, 1) := by decide +kernel
theorem dX9_numberOfWhole_105 : decode cX9_numberOfWhole 105 = .ok (.invokevirtual 290, 3) := by decide +kernel
theorem dX9_numberOfWhole_108 : decode cX9_numberOfWhole 108 = .ok (.ireturn, 1) := by decide +kernel
theorem dX9_numberOfWhole_109 : decode cX9_numberOfWhole 109 = .ok (.aload_n 0, 1) := by decide +kernel
theorem dX9_numberOfWhole_110 : decode cX9_numberOfWhole 110 = .ok (.aload_n 1, 1) := by decide +kernel
theorem dX9_numberOfWhole_111 : decode cX9_numberOfWhole 111 = .ok (.invokevirtual 293, 3) := by decide +kernel
theorem dX9_numberOfWhole_114 : decode cX9_numberOfWhole 114 = .ok (.ireturn, 1) := by decide +kernel
theorem dX9_expressedStreets_0 : decode cX9_expressedStreets 0 = .ok (.iconst 0, 1) := by decide +kernel
theorem dX9_expressedStreets_1 : decode cX9_expressedStreets 1 = .ok (.istore_n 2, 1) := by decide +kernel
theorem dX9_expressedStreets_2 : decode cX9_expressedStreets 2 = .ok (.iconst 0, 1) := by decide +kernel
theorem dX9_expressedStreets_3 : decode cX9_expressedStreets 3 = .ok (.istore_n 3, 1) := by decide +kernel
theorem dX9_expressedStreets_4 : decode cX9_expressedStreets 4 = .ok (.iload_n 3, 1) := by decide +kernel
theorem dX9_expressedStreets_5 : decode cX9_expressedStreets 5 = .ok (.aload_n 1, 1) := by decide +kernel
theorem dX9_expressedStreets_6 : decode cX9_expressedStreets 6 = .ok (.iconst 0, 1) := by decide +kernel
theorem dX9_expressedStreets_7 : decode cX9_expressedStreets 7 = .ok (.invokevirtual 92, 3) := by decide +kernel
theorem dX9_expressedStreets_10 : decode cX9_expressedStreets 10 = .ok (.invokevirtual 161, 3) := by decide +kernel
theorem dX9_expressedStreets_13 : decode cX9_expressedStreets 13 = .ok (.if_icmp .ge 28, 3) := by decide +kernel
theorem dX9_expressedStreets_16 : decode cX9_expressedStreets 16 = .ok (.aload_n 0, 1) := by decide +kernel
theorem dX9_expressedStreets_17 : decode cX9_expressedStreets 17 = .ok (.aload_n 1, 1) := by decide +kernel
theorem dX9_expressedStreets_18 : decode cX9_expressedStreets 18 = .ok (.iload_n 3, 1) := by decide +kernel
theorem dX9_expressedStreets_19 : decode cX9_expressedStreets 19 = .ok (.invokevirtual 207, 3) := by decide +kernel
theorem dX9_expressedStreets_22 : decode cX9_expressedStreets 22 = .ok (.aload_n 0, 1) := by decide +kernel
theorem dX9_expressedStreets_23 : decode cX9_expressedStreets 23 = .ok (.getfield 59, 3) := by decide +kernel
theorem dX9_expressedStreets_26 : decode cX9_expressedStreets 26 = .ok (.invokevirtual 211, 3) := by decide +kernel
theorem dX9_expressedStreets_29 : decode cX9_expressedStreets 29 = .ok (.ifCond .eq 6, 3) := by decide +kernel
theorem dX9_expressedStreets_32 : decode cX9_expressedStreets 32 = .ok (.iinc 2 1, 3) := by decide +kernel
theorem dX9_expressedStreets_35 : decode cX9_expressedStreets 35 = .ok (.iinc 3 1, 3) := by decide +kernel
theorem dX9_expressedStreets_38 : decode cX9_expressedStreets 38 = .ok (.goto (-34), 3) := by decide +kernel
theorem dX9_expressedStreets_41 : decode cX9_expressedStreets 41 = .ok (.iload_n 2, 1) := by decide +kernel
theorem dX9_expressedStreets_42 : decode cX9_expressedStreets 42 = .ok (.ireturn, 1) := by decide +kernel
theorem dX9_moveAtRandom_0 : decode cX9_moveAtRandom 0 = .ok (.ldc2_w 296, 3) := by decide +kernel
theorem dX9_moveAtRandom_3 : decode cX9_moveAtRandom 3 = .ok (.iload_n 1, 1) := by decide +kernel
theorem dX9_moveAtRandom_4 : decode cX9_moveAtRandom 4 = .ok (.i2l, 1) := by decide +kernel
theorem dX9_moveAtRandom_5 : decode cX9_moveAtRandom 5 = .ok (.lmul, 1) := by decide +kernel
theorem dX9_moveAtRandom_6 : decode cX9_moveAtRandom 6 = .ok (.ldc2_w 298, 3) := by decide +kernel
theorem dX9_moveAtRandom_9 : decode cX9_moveAtRandom 9 = .ok (.iload_n 2, 1) := by decide +kernel
theorem dX9_moveAtRandom_10 : decode cX9_moveAtRandom 10 = .ok (.i2l, 1) := by decide +kernel
theorem dX9_moveAtRandom_11 : decode cX9_moveAtRandom 11 = .ok (.lmul, 1) := by decide +kernel
theorem dX9_moveAtRandom_12 : decode cX9_moveAtRandom 12 = .ok (.ladd, 1) := by decide +kernel
theorem dX9_moveAtRandom_13 : decode cX9_moveAtRandom 13 = .ok (.lconst 1, 1) := by decide +kernel
theorem dX9_moveAtRandom_14 : decode cX9_moveAtRandom 14 = .ok (.ladd, 1) := by decide +kernel
theorem dX9_moveAtRandom_15 : decode cX9_moveAtRandom 15 = .ok (.lstore_n 3, 1) := by decide +kernel
theorem dX9_moveAtRandom_16 : decode cX9_moveAtRandom 16 = .ok (.lload_n 3, 1) := by decide +kernel
theorem dX9_moveAtRandom_17 : decode cX9_moveAtRandom 17 = .ok (.lload_n 3, 1) := by decide +kernel
theorem dX9_moveAtRandom_18 : decode cX9_moveAtRandom 18 = .ok (.lmul, 1) := by decide +kernel
theorem dX9_moveAtRandom_19 : decode cX9_moveAtRandom 19 = .ok (.ldc2_w 300, 3) := by decide +kernel
theorem dX9_moveAtRandom_22 : decode cX9_moveAtRandom 22 = .ok (.lrem, 1) := by decide +kernel
theorem dX9_moveAtRandom_23 : decode cX9_moveAtRandom 23 = .ok (.l2i, 1) := by decide +kernel
theorem dX9_moveAtRandom_24 : decode cX9_moveAtRandom 24 = .ok (.istore 5, 2) := by decide +kernel
theorem dX9_moveAtRandom_26 : decode cX9_moveAtRandom 26 = .ok (.aload_n 0, 1) := by decide +kernel
theorem dX9_moveAtRandom_27 : decode cX9_moveAtRandom 27 = .ok (.iload 5, 2) := by decide +kernel
theorem dX9_moveAtRandom_29 : decode cX9_moveAtRandom 29 = .ok (.iconst 2, 1) := by decide +kernel
theorem dX9_moveAtRandom_30 : decode cX9_moveAtRandom 30 = .ok (.irem, 1) := by decide +kernel
theorem dX9_moveAtRandom_31 : decode cX9_moveAtRandom 31 = .ok (.invokevirtual 92, 3) := by decide +kernel
theorem dX9_moveAtRandom_34 : decode cX9_moveAtRandom 34 = .ok (.astore 6, 2) := by decide +kernel
theorem dX9_moveAtRandom_36 : decode cX9_moveAtRandom 36 = .ok (.aload 6, 2) := by decide +kernel
theorem dX9_moveAtRandom_38 : decode cX9_moveAtRandom 38 = .ok (.invokevirtual 96, 3) := by decide +kernel
theorem dX9_moveAtRandom_41 : decode cX9_moveAtRandom 41 = .ok (.istore 7, 2) := by decide +kernel
theorem dX9_moveAtRandom_43 : decode cX9_moveAtRandom 43 = .ok (.iload 7, 2) := by decide +kernel
theorem dX9_moveAtRandom_45 : decode cX9_moveAtRandom 45 = .ok (.ifCond .le 32, 3) := by decide +kernel
theorem dX9_moveAtRandom_48 : decode cX9_moveAtRandom 48 = .ok (.aload 6, 2) := by decide +kernel
theorem dX9_moveAtRandom_50 : decode cX9_moveAtRandom 50 = .ok (.iload 5, 2) := by decide +kernel
theorem dX9_moveAtRandom_52 : decode cX9_moveAtRandom 52 = .ok (.iconst 2, 1) := by decide +kernel
theorem dX9_moveAtRandom_53 : decode cX9_moveAtRandom 53 = .ok (.idiv, 1) := by decide +kernel
theorem dX9_moveAtRandom_54 : decode cX9_moveAtRandom 54 = .ok (.iload 7, 2) := by decide +kernel
theorem dX9_moveAtRandom_56 : decode cX9_moveAtRandom 56 = .ok (.irem, 1) := by decide +kernel
theorem dX9_moveAtRandom_57 : decode cX9_moveAtRandom 57 = .ok (.iload 5, 2) := by decide +kernel
theorem dX9_moveAtRandom_59 : decode cX9_moveAtRandom 59 = .ok (.bipush 16, 2) := by decide +kernel
theorem dX9_moveAtRandom_61 : decode cX9_moveAtRandom 61 = .ok (.idiv, 1) := by decide +kernel
theorem dX9_moveAtRandom_62 : decode cX9_moveAtRandom 62 = .ok (.bipush 61, 2) := by decide +kernel
theorem dX9_moveAtRandom_64 : decode cX9_moveAtRandom 64 = .ok (.irem, 1) := by decide +kernel
theorem dX9_moveAtRandom_65 : decode cX9_moveAtRandom 65 = .ok (.iload 5, 2) := by decide +kernel
theorem dX9_moveAtRandom_67 : decode cX9_moveAtRandom 67 = .ok (.sipush 256, 3) := by decide +kernel
theorem dX9_moveAtRandom_70 : decode cX9_moveAtRandom 70 = .ok (.idiv, 1) := by decide +kernel
theorem dX9_moveAtRandom_71 : decode cX9_moveAtRandom 71 = .ok (.bipush 61, 2) := by decide +kernel
theorem dX9_moveAtRandom_73 : decode cX9_moveAtRandom 73 = .ok (.irem, 1) := by decide +kernel
theorem dX9_moveAtRandom_74 : decode cX9_moveAtRandom 74 = .ok (.invokevirtual 147, 3) := by decide +kernel
theorem dX9_moveAtRandom_77 : decode cX9_moveAtRandom 77 = .ok (.return_, 1) := by decide +kernel
end
section
theorem dX10_in_0 : decode cX10_in 0 = .ok (.iload_n 0, 1) := by decide +kernel
theorem dX10_in_1 : decode cX10_in 1 = .ok (.iload_n 1, 1) := by decide +kernel
theorem dX10_in_2 : decode cX10_in 2 = .ok (.if_icmp .lt 12, 3) := by decide +kernel
theorem dX10_in_5 : decode cX10_in 5 = .ok (.iload_n 0, 1) := by decide +kernel
theorem dX10_in_6 : decode cX10_in 6 = .ok (.iload_n 2, 1) := by decide +kernel
theorem dX10_in_7 : decode cX10_in 7 = .ok (.if_icmp .gt 7, 3) := by decide +kernel
theorem dX10_in_10 : decode cX10_in 10 = .ok (.iconst 1, 1) := by decide +kernel
theorem dX10_in_11 : decode cX10_in 11 = .ok (.goto 4, 3) := by decide +kernel
theorem dX10_in_14 : decode cX10_in 14 = .ok (.iconst 0, 1) := by decide +kernel
theorem dX10_in_15 : decode cX10_in 15 = .ok (.ireturn, 1) := by decide +kernel
theorem dX10_init_0 : decode cX10_init 0 = .ok (.aload_n 0, 1) := by decide +kernel
theorem dX10_init_1 : decode cX10_init 1 = .ok (.invokespecial 1, 3) := by decide +kernel
theorem dX10_init_4 : decode cX10_init 4 = .ok (.aload_n 0, 1) := by decide +kernel
theorem dX10_init_5 : decode cX10_init 5 = .ok (.bipush 10, 2) := by decide +kernel
theorem dX10_init_7 : decode cX10_init 7 = .ok (.putfield 7, 3) := by decide +kernel
theorem dX10_init_10 : decode cX10_init 10 = .ok (.aload_n 0, 1) := by decide +kernel
theorem dX10_init_11 : decode cX10_init 11 = .ok (.iconst 2, 1) := by decide +kernel
theorem dX10_init_12 : decode cX10_init 12 = .ok (.putfield 13, 3) := by decide +kernel
theorem dX10_init_15 : decode cX10_init 15 = .ok (.aload_n 0, 1) := by decide +kernel
theorem dX10_init_16 : decode cX10_init 16 = .ok (.iconst 2, 1) := by decide +kernel
theorem dX10_init_17 : decode cX10_init 17 = .ok (.newarray .int, 2) := by decide +kernel
theorem dX10_init_19 : decode cX10_init 19 = .ok (.putfield 16, 3) := by decide +kernel
theorem dX10_init_22 : decode cX10_init 22 = .ok (.aload_n 0, 1) := by decide +kernel
theorem dX10_init_23 : decode cX10_init 23 = .ok (.iconst 2, 1) := by decide +kernel
theorem dX10_init_24 : decode cX10_init 24 = .ok (.newarray .int, 2) := by decide +kernel
theorem dX10_init_26 : decode cX10_init 26 = .ok (.putfield 20, 3) := by decide +kernel
theorem dX10_init_29 : decode cX10_init 29 = .ok (.aload_n 0, 1) := by decide +kernel
theorem dX10_init_30 : decode cX10_init 30 = .ok (.bipush 16, 2) := by decide +kernel
theorem dX10_init_32 : decode cX10_init 32 = .ok (.newarray .int, 2) := by decide +kernel
theorem dX10_init_34 : decode cX10_init 34 = .ok (.putfield 23, 3) := by decide +kernel
theorem dX10_init_37 : decode cX10_init 37 = .ok (.aload_n 0, 1) := by decide +kernel
theorem dX10_init_38 : decode cX10_init 38 = .ok (.bipush 16, 2) := by decide +kernel
theorem dX10_init_40 : decode cX10_init 40 = .ok (.newarray .int, 2) := by decide +kernel
theorem dX10_init_42 : decode cX10_init 42 = .ok (.putfield 26, 3) := by decide +kernel
theorem dX10_init_45 : decode cX10_init 45 = .ok (.aload_n 0, 1) := by decide +kernel
theorem dX10_init_46 : decode cX10_init 46 = .ok (.bipush 16, 2) := by decide +kernel
theorem dX10_init_48 : decode cX10_init 48 = .ok (.newarray .int, 2) := by decide +kernel
theorem dX10_init_50 : decode cX10_init 50 = .ok (.putfield 29, 3) := by decide +kernel
theorem dX10_init_53 : decode cX10_init 53 = .ok (.aload_n 0, 1) := by decide +kernel
theorem dX10_init_54 : decode cX10_init 54 = .ok (.bipush 16, 2) := by decide +kernel
theorem dX10_init_56 : decode cX10_init 56 = .ok (.newarray .int, 2) := by decide +kernel
theorem dX10_init_58 : decode cX10_init 58 = .ok (.putfield 32, 3) := by decide +kernel
theorem dX10_init_61 : decode cX10_init 61 = .ok (.aload_n 0, 1) := by decide +kernel
theorem dX10_init_62 : decode cX10_init 62 = .ok (.bipush 16, 2) := by decide +kernel
theorem dX10_init_64 : decode cX10_init 64 = .ok (.newarray .int, 2) := by decide +kernel
theorem dX10_init_66 : decode cX10_init 66 = .ok (.putfield 35, 3) := by decide +kernel
theorem dX10_init_69 : decode cX10_init 69 = .ok (.aload_n 0, 1) := by decide +kernel
theorem dX10_init_70 : decode cX10_init 70 = .ok (.bipush 16, 2) := by decide +kernel
theorem dX10_init_72 : decode cX10_init 72 = .ok (.newarray .int, 2) := by decide +kernel
theorem dX10_init_74 : decode cX10_init 74 = .ok (.putfield 38, 3) := by decide +kernel
theorem dX10_init_77 : decode cX10_init 77 = .ok (.aload_n 0, 1) := by decide +kernel
theorem dX10_init_78 : decode cX10_init 78 = .ok (.sipush 816, 3) := by decide +kernel
theorem dX10_init_81 : decode cX10_init 81 = .ok (.newarray .int, 2) := by decide +kernel
theorem dX10_init_83 : decode cX10_init 83 = .ok (.putfield 41, 3) := by decide +kernel
theorem dX10_init_86 : decode cX10_init 86 = .ok (.aload_n 0, 1) := by decide +kernel
theorem dX10_init_87 : decode cX10_init 87 = .ok (.sipush 204, 3) := by decide +kernel
theorem dX10_init_90 : decode cX10_init 90 = .ok (.newarray .int, 2) := by decide +kernel
theorem dX10_init_92 : decode cX10_init 92 = .ok (.putfield 44, 3) := by decide +kernel
theorem dX10_init_95 : decode cX10_init 95 = .ok (.aload_n 0, 1) := by decide +kernel
theorem dX10_init_96 : decode cX10_init 96 = .ok (.bipush 102, 2) := by decide +kernel
theorem dX10_init_98 : decode cX10_init 98 = .ok (.newarray .int, 2) := by decide +kernel
theorem dX10_init_100 : decode cX10_init 100 = .ok (.putfield 47, 3) := by decide +kernel
theorem dX10_init_103 : decode cX10_init 103 = .ok (.aload_n 0, 1) := by decide +kernel
theorem dX10_init_104 : decode cX10_init 104 = .ok (.bipush 64, 2) := by decide +kernel
theorem dX10_init_106 : decode cX10_init 106 = .ok (.newarray .int, 2) := by decide +kernel
theorem dX10_init_108 : decode cX10_init 108 = .ok (.putfield 50, 3) := by decide +kernel
theorem dX10_init_111 : decode cX10_init 111 = .ok (.aload_n 0, 1) := by decide +kernel
theorem dX10_init_112 : decode cX10_init 112 = .ok (.bipush 64, 2) := by decide +kernel
theorem dX10_init_114 : decode cX10_init 114 = .ok (.newarray .int, 2) := by decide +kernel
theorem dX10_init_116 : decode cX10_init 116 = .ok (.putfield 53, 3) := by decide +kernel
theorem dX10_init_119 : decode cX10_init 119 = .ok (.aload_n 0, 1) := by decide +kernel
theorem dX10_init_120 : decode cX10_init 120 = .ok (.bipush 16, 2) := by decide +kernel
theorem dX10_init_122 : decode cX10_init 122 = .ok (.newarray .int, 2) := by decide +kernel
theorem dX10_init_124 : decode cX10_init 124 = .ok (.putfield 56, 3) := by decide +kernel
theorem dX10_init_127 : decode cX10_init 127 = .ok (.aload_n 0, 1) := by decide +kernel
theorem dX10_init_128 : decode cX10_init 128 = .ok (.bipush 16, 2) := by decide +kernel
theorem dX10_init_130 : decode cX10_init 130 = .ok (.newarray .int, 2) := by decide +kernel
theorem dX10_init_132 : decode cX10_init 132 = .ok (.putfield 59, 3) := by decide +kernel
theorem dX10_init_135 : decode cX10_init 135 = .ok (.aload_n 0, 1) := by decide +kernel
theorem dX10_init_136 : decode cX10_init 136 = .ok (.iconst 4, 1) := by decide +kernel
theorem dX10_init_137 : decode cX10_init 137 = .ok (.newarray .int, 2) := by decide +kernel
theorem dX10_init_139 : decode cX10_init 139 = .ok (.putfield 62, 3) := by decide +kernel
theorem dX10_init_142 : decode cX10_init 142 = .ok (.aload_n 0, 1) := by decide +kernel
theorem dX10_init_143 : decode cX10_init 143 = .ok (.bipush 12, 2) := by decide +kernel
theorem dX10_init_145 : decode cX10_init 145 = .ok (.newarray .int, 2) := by decide +kernel
theorem dX10_init_147 : decode cX10_init 147 = .ok (.putfield 65, 3) := by decide +kernel
theorem dX10_init_150 : decode cX10_init 150 = .ok (.aload_n 0, 1) := by decide +kernel
theorem dX10_init_151 : decode cX10_init 151 = .ok (.sipush 200, 3) := by decide +kernel
theorem dX10_init_154 : decode cX10_init 154 = .ok (.newarray .int, 2) := by decide +kernel
theorem dX10_init_156 : decode cX10_init 156 = .ok (.putfield 68, 3) := by decide +kernel
theorem dX10_init_159 : decode cX10_init 159 = .ok (.aload_n 0, 1) := by decide +kernel
theorem dX10_init_160 : decode cX10_init 160 = .ok (.bipush 102, 2) := by decide +kernel
theorem dX10_init_162 : decode cX10_init 162 = .ok (.newarray .int, 2) := by decide +kernel
theorem dX10_init_164 : decode cX10_init 164 = .ok (.putfield 71, 3) := by decide +kernel
theorem dX10_init_167 : decode cX10_init 167 = .ok (.aload_n 0, 1) := by decide +kernel
theorem dX10_init_168 : decode cX10_init 168 = .ok (.bipush 12, 2) := by decide +kernel
theorem dX10_init_170 : decode cX10_init 170 = .ok (.putfield 7, 3) := by decide +kernel
theorem dX10_init_173 : decode cX10_init 173 = .ok (.aload_n 0, 1) := by decide +kernel
theorem dX10_init_174 : decode cX10_init 174 = .ok (.iconst 0, 1) := by decide +kernel
theorem dX10_init_175 : decode cX10_init 175 = .ok (.iconst 0, 1) := by decide +kernel
theorem dX10_init_176 : decode cX10_init 176 = .ok (.iconst 5, 1) := by decide +kernel
theorem dX10_init_177 : decode cX10_init 177 = .ok (.iconst 5, 1) := by decide +kernel
theorem dX10_init_178 : decode cX10_init 178 = .ok (.invokevirtual 74, 3) := by decide +kernel
theorem dX10_init_181 : decode cX10_init 181 = .ok (.aload_n 0, 1) := by decide +kernel
theorem dX10_init_182 : decode cX10_init 182 = .ok (.iconst 0, 1) := by decide +kernel
theorem dX10_init_183 : decode cX10_init 183 = .ok (.iconst 0, 1) := by decide +kernel
theorem dX10_init_184 : decode cX10_init 184 = .ok (.bipush 20, 2) := by decide +kernel
theorem dX10_init_186 : decode cX10_init 186 = .ok (.bipush 6, 2) := by decide +kernel
theorem dX10_init_188 : decode cX10_init 188 = .ok (.invokevirtual 74, 3) := by decide +kernel
theorem dX10_init_191 : decode cX10_init 191 = .ok (.aload_n 0, 1) := by decide +kernel
theorem dX10_init_192 : decode cX10_init 192 = .ok (.iconst 0, 1) := by decide +kernel
theorem dX10_init_193 : decode cX10_init 193 = .ok (.iconst 0, 1) := by decide +kernel
theorem dX10_init_194 : decode cX10_init 194 = .ok (.bipush 34, 2) := by decide +kernel
theorem dX10_init_196 : decode cX10_init 196 = .ok (.bipush 8, 2) := by decide +kernel
theorem dX10_init_198 : decode cX10_init 198 = .ok (.invokevirtual 74, 3) := by decide +kernel
theorem dX10_init_201 : decode cX10_init 201 = .ok (.aload_n 0, 1) := by decide +kernel
theorem dX10_init_202 : decode cX10_init 202 = .ok (.iconst 0, 1) := by decide +kernel
theorem dX10_init_203 : decode cX10_init 203 = .ok (.iconst 1, 1) := by decide +kernel
theorem dX10_init_204 : decode cX10_init 204 = .ok (.bipush 6, 2) := by decide +kernel
theorem dX10_init_206 : decode cX10_init 206 = .ok (.bipush 24, 2) := by decide +kernel
theorem dX10_init_208 : decode cX10_init 208 = .ok (.invokevirtual 74, 3) := by decide +kernel
theorem dX10_init_211 : decode cX10_init 211 = .ok (.aload_n 0, 1) := by decide +kernel
theorem dX10_init_212 : decode cX10_init 212 = .ok (.iconst 0, 1) := by decide +kernel
theorem dX10_init_213 : decode cX10_init 213 = .ok (.iconst 0, 1) := by decide +kernel
theorem dX10_init_214 : decode cX10_init 214 = .ok (.bipush 21, 2) := by decide +kernel
theorem dX10_init_216 : decode cX10_init 216 = .ok (.bipush 25, 2) := by decide +kernel
theorem dX10_init_218 : decode cX10_init 218 = .ok (.invokevirtual 74, 3) := by decide +kernel
theorem dX10_init_221 : decode cX10_init 221 = .ok (.aload_n 0, 1) := by decide +kernel
theorem dX10_init_222 : decode cX10_init 222 = .ok (.iconst 0, 1) := by decide +kernel
theorem dX10_init_223 : decode cX10_init 223 = .ok (.iconst 2, 1) := by decide +kernel
theorem dX10_init_224 : decode cX10_init 224 = .ok (.bipush 40, 2) := by decide +kernel
theorem dX10_init_226 : decode cX10_init 226 = .ok (.bipush 26, 2) := by decide +kernel
theorem dX10_init_228 : decode cX10_init 228 = .ok (.invokevirtual 74, 3) := by decide +kernel
theorem dX10_init_231 : decode cX10_init 231 = .ok (.aload_n 0, 1) := by decide +kernel
theorem dX10_init_232 : decode cX10_init 232 = .ok (.iconst 1, 1) := by decide +kernel
theorem dX10_init_233 : decode cX10_init 233 = .ok (.iconst 0, 1) := by decide +kernel
theorem dX10_init_234 : decode cX10_init 234 = .ok (.bipush 8, 2) := by decide +kernel
theorem dX10_init_236 : decode cX10_init 236 = .ok (.bipush 7, 2) := by decide +kernel
theorem dX10_init_238 : decode cX10_init 238 = .ok (.invokevirtual 74, 3) := by decide +kernel
theorem dX10_init_241 : decode cX10_init 241 = .ok (.aload_n 0, 1) := by decide +kernel
theorem dX10_init_242 : decode cX10_init 242 = .ok (.iconst 1, 1) := by decide +kernel
theorem dX10_init_243 : decode cX10_init 243 = .ok (.iconst 0, 1) := by decide +kernel
theorem dX10_init_244 : decode cX10_init 244 = .ok (.bipush 22, 2) := by decide +kernel
theorem dX10_init_246 : decode cX10_init 246 = .ok (.iconst 5, 1) := by decide +kernel
theorem dX10_init_247 : decode cX10_init 247 = .ok (.invokevirtual 74, 3) := by decide +kernel
theorem dX10_init_250 : decode cX10_init 250 = .ok (.aload_n 0, 1) := by decide +kernel
theorem dX10_init_251 : decode cX10_init 251 = .ok (.iconst 1, 1) := by decide +kernel
theorem dX10_init_252 : decode cX10_init 252 = .ok (.iconst 0, 1) := by decide +kernel
theorem dX10_init_253 : decode cX10_init 253 = .ok (.bipush 33, 2) := by decide +kernel
theorem dX10_init_255 : decode cX10_init 255 = .ok (.bipush 11, 2) := by decide +kernel
theorem dX10_init_257 : decode cX10_init 257 = .ok (.invokevirtual 74, 3) := by decide +kernel
theorem dX10_init_260 : decode cX10_init 260 = .ok (.aload_n 0, 1) := by decide +kernel
theorem dX10_init_261 : decode cX10_init 261 = .ok (.iconst 1, 1) := by decide +kernel
theorem dX10_init_262 : decode cX10_init 262 = .ok (.iconst 0, 1) := by decide +kernel
theorem dX10_init_263 : decode cX10_init 263 = .ok (.bipush 9, 2) := by decide +kernel
theorem dX10_init_265 : decode cX10_init 265 = .ok (.bipush 28, 2) := by decide +kernel
theorem dX10_init_267 : decode cX10_init 267 = .ok (.invokevirtual 74, 3) := by decide +kernel
theorem dX10_init_270 : decode cX10_init 270 = .ok (.aload_n 0, 1) := by decide +kernel
theorem dX10_init_271 : decode cX10_init 271 = .ok (.iconst 1, 1) := by decide +kernel
theorem dX10_init_272 : decode cX10_init 272 = .ok (.iconst 0, 1) := by decide +kernel
theorem dX10_init_273 : decode cX10_init 273 = .ok (.bipush 24, 2) := by decide +kernel
theorem dX10_init_275 : decode cX10_init 275 = .ok (.bipush 27, 2) := by decide +kernel
theorem dX10_init_277 : decode cX10_init 277 = .ok (.invokevirtual 74, 3) := by decide +kernel
theorem dX10_init_280 : decode cX10_init 280 = .ok (.aload_n 0, 1) := by decide +kernel
theorem dX10_init_281 : decode cX10_init 281 = .ok (.iconst 1, 1) := by decide +kernel
theorem dX10_init_282 : decode cX10_init 282 = .ok (.iconst 0, 1) := by decide +kernel
theorem dX10_init_283 : decode cX10_init 283 = .ok (.bipush 30, 2) := by decide +kernel
theorem dX10_init_285 : decode cX10_init 285 = .ok (.bipush 18, 2) := by decide +kernel
theorem dX10_init_287 : decode cX10_init 287 = .ok (.invokevirtual 74, 3) := by decide +kernel
theorem dX10_init_290 : decode cX10_init 290 = .ok (.aload_n 0, 1) := by decide +kernel
theorem dX10_init_291 : decode cX10_init 291 = .ok (.iconst 0, 1) := by decide +kernel
theorem dX10_init_292 : decode cX10_init 292 = .ok (.iconst 0, 1) := by decide +kernel
theorem dX10_init_293 : decode cX10_init 293 = .ok (.iconst 1, 1) := by decide +kernel
theorem dX10_init_294 : decode cX10_init 294 = .ok (.iconst 3, 1) := by decide +kernel
theorem dX10_init_295 : decode cX10_init 295 = .ok (.invokevirtual 78, 3) := by decide +kernel
theorem dX10_init_298 : decode cX10_init 298 = .ok (.aload_n 0, 1) := by decide +kernel
theorem dX10_init_299 : decode cX10_init 299 = .ok (.iconst 0, 1) := by decide +kernel
theorem dX10_init_300 : decode cX10_init 300 = .ok (.iconst 1, 1) := by decide +kernel
theorem dX10_init_301 : decode cX10_init 301 = .ok (.iconst 2, 1) := by decide +kernel
theorem dX10_init_302 : decode cX10_init 302 = .ok (.iconst 0, 1) := by decide +kernel
theorem dX10_init_303 : decode cX10_init 303 = .ok (.invokevirtual 78, 3) := by decide +kernel
theorem dX10_init_306 : decode cX10_init 306 = .ok (.aload_n 0, 1) := by decide +kernel
theorem dX10_init_307 : decode cX10_init 307 = .ok (.iconst 0, 1) := by decide +kernel
theorem dX10_init_308 : decode cX10_init 308 = .ok (.iconst 0, 1) := by decide +kernel
theorem dX10_init_309 : decode cX10_init 309 = .ok (.iconst 3, 1) := by decide +kernel
theorem dX10_init_310 : decode cX10_init 310 = .ok (.iconst 4, 1) := by decide +kernel
theorem dX10_init_311 : decode cX10_init 311 = .ok (.invokevirtual 78, 3) := by decide +kernel
theorem dX10_init_314 : decode cX10_init 314 = .ok (.aload_n 0, 1) := by decide +kernel
theorem dX10_init_315 : decode cX10_init 315 = .ok (.iconst 0, 1) := by decide +kernel
theorem dX10_init_316 : decode cX10_init 316 = .ok (.iconst 1, 1) := by decide +kernel
theorem dX10_init_317 : decode cX10_init 317 = .ok (.iconst 4, 1) := by decide +kernel
theorem dX10_init_318 : decode cX10_init 318 = .ok (.iconst 0, 1) := by decide +kernel
theorem dX10_init_319 : decode cX10_init 319 = .ok (.invokevirtual 78, 3) := by decide +kernel
theorem dX10_init_322 : decode cX10_init 322 = .ok (.aload_n 0, 1) := by decide +kernel
theorem dX10_init_323 : decode cX10_init 323 = .ok (.iconst 0, 1) := by decide +kernel
theorem dX10_init_324 : decode cX10_init 324 = .ok (.iconst 3, 1) := by decide +kernel
theorem dX10_init_325 : decode cX10_init 325 = .ok (.iconst 4, 1) := by decide +kernel
theorem dX10_init_326 : decode cX10_init 326 = .ok (.iconst 5, 1) := by decide +kernel
theorem dX10_init_327 : decode cX10_init 327 = .ok (.invokevirtual 78, 3) := by decide +kernel
theorem dX10_init_330 : decode cX10_init 330 = .ok (.aload_n 0, 1) := by decide +kernel
theorem dX10_init_331 : decode cX10_init 331 = .ok (.iconst 0, 1) := by decide +kernel
theorem dX10_init_332 : decode cX10_init 332 = .ok (.iconst 4, 1) := by decide +kernel
theorem dX10_init_333 : decode cX10_init 333 = .ok (.iconst 5, 1) := by decide +kernel
theorem dX10_init_334 : decode cX10_init 334 = .ok (.iconst 0, 1) := by decide +kernel
theorem dX10_init_335 : decode cX10_init 335 = .ok (.invokevirtual 78, 3) := by decide +kernel
theorem dX10_init_338 : decode cX10_init 338 = .ok (.aload_n 0, 1) := by decide +kernel
theorem dX10_init_339 : decode cX10_init 339 = .ok (.iconst 1, 1) := by decide +kernel
theorem dX10_init_340 : decode cX10_init 340 = .ok (.iconst 0, 1) := by decide +kernel
theorem dX10_init_341 : decode cX10_init 341 = .ok (.iconst 1, 1) := by decide +kernel
theorem dX10_init_342 : decode cX10_init 342 = .ok (.iconst 3, 1) := by decide +kernel
theorem dX10_init_343 : decode cX10_init 343 = .ok (.invokevirtual 78, 3) := by decide +kernel
theorem dX10_init_346 : decode cX10_init 346 = .ok (.aload_n 0, 1) := by decide +kernel
theorem dX10_init_347 : decode cX10_init 347 = .ok (.iconst 1, 1) := by decide +kernel
theorem dX10_init_348 : decode cX10_init 348 = .ok (.iconst 1, 1) := by decide +kernel
theorem dX10_init_349 : decode cX10_init 349 = .ok (.iconst 2, 1) := by decide +kernel
theorem dX10_init_350 : decode cX10_init 350 = .ok (.bipush 6, 2) := by decide +kernel
theorem dX10_init_352 : decode cX10_init 352 = .ok (.invokevirtual 78, 3) := by decide +kernel
theorem dX10_init_355 : decode cX10_init 355 = .ok (.aload_n 0, 1) := by decide +kernel
theorem dX10_init_356 : decode cX10_init 356 = .ok (.iconst 1, 1) := by decide +kernel
theorem dX10_init_357 : decode cX10_init 357 = .ok (.iconst 0, 1) := by decide +kernel
theorem dX10_init_358 : decode cX10_init 358 = .ok (.iconst 3, 1) := by decide +kernel
theorem dX10_init_359 : decode cX10_init 359 = .ok (.iconst 4, 1) := by decide +kernel
theorem dX10_init_360 : decode cX10_init 360 = .ok (.invokevirtual 78, 3) := by decide +kernel
theorem dX10_init_363 : decode cX10_init 363 = .ok (.aload_n 0, 1) := by decide +kernel
theorem dX10_init_364 : decode cX10_init 364 = .ok (.iconst 1, 1) := by decide +kernel
theorem dX10_init_365 : decode cX10_init 365 = .ok (.iconst 1, 1) := by decide +kernel
theorem dX10_init_366 : decode cX10_init 366 = .ok (.iconst 5, 1) := by decide +kernel
theorem dX10_init_367 : decode cX10_init 367 = .ok (.bipush 7, 2) := by decide +kernel
theorem dX10_init_369 : decode cX10_init 369 = .ok (.invokevirtual 78, 3) := by decide +kernel
theorem dX10_init_372 : decode cX10_init 372 = .ok (.aload_n 0, 1) := by decide +kernel
theorem dX10_init_373 : decode cX10_init 373 = .ok (.iconst 1, 1) := by decide +kernel
theorem dX10_init_374 : decode cX10_init 374 = .ok (.iconst 5, 1) := by decide +kernel
theorem dX10_init_375 : decode cX10_init 375 = .ok (.iconst 4, 1) := by decide +kernel
theorem dX10_init_376 : decode cX10_init 376 = .ok (.bipush 7, 2) := by decide +kernel
theorem dX10_init_378 : decode cX10_init 378 = .ok (.invokevirtual 78, 3) := by decide +kernel
theorem dX10_init_381 : decode cX10_init 381 = .ok (.aload_n 0, 1) := by decide +kernel
theorem dX10_init_382 : decode cX10_init 382 = .ok (.iconst 1, 1) := by decide +kernel
theorem dX10_init_383 : decode cX10_init 383 = .ok (.iconst 3, 1) := by decide +kernel
theorem dX10_init_384 : decode cX10_init 384 = .ok (.iconst 4, 1) := by decide +kernel
theorem dX10_init_385 : decode cX10_init 385 = .ok (.iconst 5, 1) := by decide +kernel
theorem dX10_init_386 : decode cX10_init 386 = .ok (.invokevirtual 78, 3) := by decide +kernel
theorem dX10_init_389 : decode cX10_init 389 = .ok (.aload_n 0, 1) := by decide +kernel
theorem dX10_init_390 : decode cX10_init 390 = .ok (.invokevirtual 81, 3) := by decide +kernel
theorem dX10_init_393 : decode cX10_init 393 = .ok (.return_, 1) := by decide +kernel
theorem dX10_meets_0 : decode cX10_meets 0 = .ok (.bipush 8, 2) := by decide +kernel
theorem dX10_meets_2 : decode cX10_meets 2 = .ok (.iload_n 1, 1) := by decide +kernel
theorem dX10_meets_3 : decode cX10_meets 3 = .ok (.imul, 1) := by decide +kernel
theorem dX10_meets_4 : decode cX10_meets 4 = .ok (.aload_n 0, 1) := by decide +kernel
theorem dX10_meets_5 : decode cX10_meets 5 = .ok (.getfield 16, 3) := by decide +kernel
theorem dX10_meets_8 : decode cX10_meets 8 = .ok (.iload_n 1, 1) := by decide +kernel
theorem dX10_meets_9 : decode cX10_meets 9 = .ok (.iaload, 1) := by decide +kernel
theorem dX10_meets_10 : decode cX10_meets 10 = .ok (.iadd, 1) := by decide +kernel
theorem dX10_meets_11 : decode cX10_meets 11 = .ok (.istore 5, 2) := by decide +kernel
theorem dX10_meets_13 : decode cX10_meets 13 = .ok (.aload_n 0, 1) := by decide +kernel
theorem dX10_meets_14 : decode cX10_meets 14 = .ok (.getfield 23, 3) := by decide +kernel
theorem dX10_meets_17 : decode cX10_meets 17 = .ok (.iload 5, 2) := by decide +kernel
theorem dX10_meets_19 : decode cX10_meets 19 = .ok (.iload_n 2, 1) := by decide +kernel
theorem dX10_meets_20 : decode cX10_meets 20 = .ok (.iastore, 1) := by decide +kernel
theorem dX10_meets_21 : decode cX10_meets 21 = .ok (.aload_n 0, 1) := by decide +kernel
theorem dX10_meets_22 : decode cX10_meets 22 = .ok (.getfield 26, 3) := by decide +kernel
theorem dX10_meets_25 : decode cX10_meets 25 = .ok (.iload 5, 2) := by decide +kernel
theorem dX10_meets_27 : decode cX10_meets 27 = .ok (.iload_n 3, 1) := by decide +kernel
theorem dX10_meets_28 : decode cX10_meets 28 = .ok (.iastore, 1) := by decide +kernel
theorem dX10_meets_29 : decode cX10_meets 29 = .ok (.aload_n 0, 1) := by decide +kernel
theorem dX10_meets_30 : decode cX10_meets 30 = .ok (.getfield 29, 3) := by decide +kernel
theorem dX10_meets_33 : decode cX10_meets 33 = .ok (.iload 5, 2) := by decide +kernel
theorem dX10_meets_35 : decode cX10_meets 35 = .ok (.iload 4, 2) := by decide +kernel
theorem dX10_meets_37 : decode cX10_meets 37 = .ok (.iastore, 1) := by decide +kernel
theorem dX10_meets_38 : decode cX10_meets 38 = .ok (.aload_n 0, 1) := by decide +kernel
theorem dX10_meets_39 : decode cX10_meets 39 = .ok (.getfield 16, 3) := by decide +kernel
theorem dX10_meets_42 : decode cX10_meets 42 = .ok (.iload_n 1, 1) := by decide +kernel
theorem dX10_meets_43 : decode cX10_meets 43 = .ok (.dup2, 1) := by decide +kernel
theorem dX10_meets_44 : decode cX10_meets 44 = .ok (.iaload, 1) := by decide +kernel
theorem dX10_meets_45 : decode cX10_meets 45 = .ok (.iconst 1, 1) := by decide +kernel
theorem dX10_meets_46 : decode cX10_meets 46 = .ok (.iadd, 1) := by decide +kernel
theorem dX10_meets_47 : decode cX10_meets 47 = .ok (.iastore, 1) := by decide +kernel
theorem dX10_meets_48 : decode cX10_meets 48 = .ok (.return_, 1) := by decide +kernel
theorem dX10_joins_0 : decode cX10_joins 0 = .ok (.bipush 8, 2) := by decide +kernel
theorem dX10_joins_2 : decode cX10_joins 2 = .ok (.iload_n 1, 1) := by decide +kernel
theorem dX10_joins_3 : decode cX10_joins 3 = .ok (.imul, 1) := by decide +kernel
theorem dX10_joins_4 : decode cX10_joins 4 = .ok (.aload_n 0, 1) := by decide +kernel
theorem dX10_joins_5 : decode cX10_joins 5 = .ok (.getfield 20, 3) := by decide +kernel
theorem dX10_joins_8 : decode cX10_joins 8 = .ok (.iload_n 1, 1) := by decide +kernel
theorem dX10_joins_9 : decode cX10_joins 9 = .ok (.iaload, 1) := by decide +kernel
theorem dX10_joins_10 : decode cX10_joins 10 = .ok (.iadd, 1) := by decide +kernel
theorem dX10_joins_11 : decode cX10_joins 11 = .ok (.istore 5, 2) := by decide +kernel
theorem dX10_joins_13 : decode cX10_joins 13 = .ok (.aload_n 0, 1) := by decide +kernel
theorem dX10_joins_14 : decode cX10_joins 14 = .ok (.getfield 32, 3) := by decide +kernel
theorem dX10_joins_17 : decode cX10_joins 17 = .ok (.iload 5, 2) := by decide +kernel
theorem dX10_joins_19 : decode cX10_joins 19 = .ok (.iload_n 2, 1) := by decide +kernel
theorem dX10_joins_20 : decode cX10_joins 20 = .ok (.iastore, 1) := by decide +kernel
theorem dX10_joins_21 : decode cX10_joins 21 = .ok (.aload_n 0, 1) := by decide +kernel
theorem dX10_joins_22 : decode cX10_joins 22 = .ok (.getfield 35, 3) := by decide +kernel
theorem dX10_joins_25 : decode cX10_joins 25 = .ok (.iload 5, 2) := by decide +kernel
theorem dX10_joins_27 : decode cX10_joins 27 = .ok (.iload_n 3, 1) := by decide +kernel
theorem dX10_joins_28 : decode cX10_joins 28 = .ok (.iastore, 1) := by decide +kernel
theorem dX10_joins_29 : decode cX10_joins 29 = .ok (.aload_n 0, 1) := by decide +kernel
theorem dX10_joins_30 : decode cX10_joins 30 = .ok (.getfield 38, 3) := by decide +kernel
theorem dX10_joins_33 : decode cX10_joins 33 = .ok (.iload 5, 2) := by decide +kernel
theorem dX10_joins_35 : decode cX10_joins 35 = .ok (.iload 4, 2) := by decide +kernel
theorem dX10_joins_37 : decode cX10_joins 37 = .ok (.iastore, 1) := by decide +kernel
theorem dX10_joins_38 : decode cX10_joins 38 = .ok (.aload_n 0, 1) := by decide +kernel
theorem dX10_joins_39 : decode cX10_joins 39 = .ok (.getfield 20, 3) := by decide +kernel
theorem dX10_joins_42 : decode cX10_joins 42 = .ok (.iload_n 1, 1) := by decide +kernel
theorem dX10_joins_43 : decode cX10_joins 43 = .ok (.dup2, 1) := by decide +kernel
theorem dX10_joins_44 : decode cX10_joins 44 = .ok (.iaload, 1) := by decide +kernel
theorem dX10_joins_45 : decode cX10_joins 45 = .ok (.iconst 1, 1) := by decide +kernel
theorem dX10_joins_46 : decode cX10_joins 46 = .ok (.iadd, 1) := by decide +kernel
theorem dX10_joins_47 : decode cX10_joins 47 = .ok (.iastore, 1) := by decide +kernel
theorem dX10_joins_48 : decode cX10_joins 48 = .ok (.return_, 1) := by decide +kernel
theorem dX10_isSurvey_0 : decode cX10_isSurvey 0 = .ok (.iload_n 0, 1) := by decide +kernel
theorem dX10_isSurvey_1 : decode cX10_isSurvey 1 = .ok (.iconst 0, 1) := by decide +kernel
theorem dX10_isSurvey_2 : decode cX10_isSurvey 2 = .ok (.iconst 1, 1) := by decide +kernel
theorem dX10_isSurvey_3 : decode cX10_isSurvey 3 = .ok (.invokestatic 84, 3) := by decide +kernel
theorem dX10_isSurvey_6 : decode cX10_isSurvey 6 = .ok (.ireturn, 1) := by decide +kernel
theorem dX10_isMeeting_0 : decode cX10_isMeeting 0 = .ok (.iload_n 1, 1) := by decide +kernel
theorem dX10_isMeeting_1 : decode cX10_isMeeting 1 = .ok (.invokestatic 88, 3) := by decide +kernel
theorem dX10_isMeeting_4 : decode cX10_isMeeting 4 = .ok (.ifCond .eq 23, 3) := by decide +kernel
theorem dX10_isMeeting_7 : decode cX10_isMeeting 7 = .ok (.iload_n 2, 1) := by decide +kernel
theorem dX10_isMeeting_8 : decode cX10_isMeeting 8 = .ok (.iconst 0, 1) := by decide +kernel
theorem dX10_isMeeting_9 : decode cX10_isMeeting 9 = .ok (.aload_n 0, 1) := by decide +kernel
theorem dX10_isMeeting_10 : decode cX10_isMeeting 10 = .ok (.getfield 16, 3) := by decide +kernel
theorem dX10_isMeeting_13 : decode cX10_isMeeting 13 = .ok (.iload_n 1, 1) := by decide +kernel
theorem dX10_isMeeting_14 : decode cX10_isMeeting 14 = .ok (.iaload, 1) := by decide +kernel
theorem dX10_isMeeting_15 : decode cX10_isMeeting 15 = .ok (.iconst 1, 1) := by decide +kernel
theorem dX10_isMeeting_16 : decode cX10_isMeeting 16 = .ok (.isub, 1) := by decide +kernel
theorem dX10_isMeeting_17 : decode cX10_isMeeting 17 = .ok (.invokestatic 84, 3) := by decide +kernel
theorem dX10_isMeeting_20 : decode cX10_isMeeting 20 = .ok (.ifCond .eq 7, 3) := by decide +kernel
theorem dX10_isMeeting_23 : decode cX10_isMeeting 23 = .ok (.iconst 1, 1) := by decide +kernel
theorem dX10_isMeeting_24 : decode cX10_isMeeting 24 = .ok (.goto 4, 3) := by decide +kernel
theorem dX10_isMeeting_27 : decode cX10_isMeeting 27 = .ok (.iconst 0, 1) := by decide +kernel
theorem dX10_isMeeting_28 : decode cX10_isMeeting 28 = .ok (.ireturn, 1) := by decide +kernel
theorem dX10_isStreet_0 : decode cX10_isStreet 0 = .ok (.iload_n 1, 1) := by decide +kernel
theorem dX10_isStreet_1 : decode cX10_isStreet 1 = .ok (.invokestatic 88, 3) := by decide +kernel
theorem dX10_isStreet_4 : decode cX10_isStreet 4 = .ok (.ifCond .eq 23, 3) := by decide +kernel
theorem dX10_isStreet_7 : decode cX10_isStreet 7 = .ok (.iload_n 2, 1) := by decide +kernel
theorem dX10_isStreet_8 : decode cX10_isStreet 8 = .ok (.iconst 0, 1) := by decide +kernel
theorem dX10_isStreet_9 : decode cX10_isStreet 9 = .ok (.aload_n 0, 1) := by decide +kernel
theorem dX10_isStreet_10 : decode cX10_isStreet 10 = .ok (.getfield 20, 3) := by decide +kernel
theorem dX10_isStreet_13 : decode cX10_isStreet 13 = .ok (.iload_n 1, 1) := by decide +kernel
theorem dX10_isStreet_14 : decode cX10_isStreet 14 = .ok (.iaload, 1) := by decide +kernel
theorem dX10_isStreet_15 : decode cX10_isStreet 15 = .ok (.iconst 1, 1) := by decide +kernel
theorem dX10_isStreet_16 : decode cX10_isStreet 16 = .ok (.isub, 1) := by decide +kernel
theorem dX10_isStreet_17 : decode cX10_isStreet 17 = .ok (.invokestatic 84, 3) := by decide +kernel
theorem dX10_isStreet_20 : decode cX10_isStreet 20 = .ok (.ifCond .eq 7, 3) := by decide +kernel
theorem dX10_isStreet_23 : decode cX10_isStreet 23 = .ok (.iconst 1, 1) := by decide +kernel
theorem dX10_isStreet_24 : decode cX10_isStreet 24 = .ok (.goto 4, 3) := by decide +kernel
theorem dX10_isStreet_27 : decode cX10_isStreet 27 = .ok (.iconst 0, 1) := by decide +kernel
theorem dX10_isStreet_28 : decode cX10_isStreet 28 = .ok (.ireturn, 1) := by decide +kernel
theorem dX10_between_0 : decode cX10_between 0 = .ok (.bipush (-4), 2) := by decide +kernel
theorem dX10_between_2 : decode cX10_between 2 = .ok (.istore 4, 2) := by decide +kernel
theorem dX10_between_4 : decode cX10_between 4 = .ok (.iconst 0, 1) := by decide +kernel
theorem dX10_between_5 : decode cX10_between 5 = .ok (.istore 5, 2) := by decide +kernel
theorem dX10_between_7 : decode cX10_between 7 = .ok (.iload 5, 2) := by decide +kernel
theorem dX10_between_9 : decode cX10_between 9 = .ok (.aload_n 0, 1) := by decide +kernel
theorem dX10_between_10 : decode cX10_between 10 = .ok (.getfield 20, 3) := by decide +kernel
theorem dX10_between_13 : decode cX10_between 13 = .ok (.iload_n 1, 1) := by decide +kernel
theorem dX10_between_14 : decode cX10_between 14 = .ok (.iaload, 1) := by decide +kernel
theorem dX10_between_15 : decode cX10_between 15 = .ok (.if_icmp .ge 83, 3) := by decide +kernel
theorem dX10_between_18 : decode cX10_between 18 = .ok (.bipush 8, 2) := by decide +kernel
theorem dX10_between_20 : decode cX10_between 20 = .ok (.iload_n 1, 1) := by decide +kernel
theorem dX10_between_21 : decode cX10_between 21 = .ok (.imul, 1) := by decide +kernel
theorem dX10_between_22 : decode cX10_between 22 = .ok (.iload 5, 2) := by decide +kernel
theorem dX10_between_24 : decode cX10_between 24 = .ok (.iadd, 1) := by decide +kernel
theorem dX10_between_25 : decode cX10_between 25 = .ok (.istore 6, 2) := by decide +kernel
theorem dX10_between_27 : decode cX10_between 27 = .ok (.aload_n 0, 1) := by decide +kernel
theorem dX10_between_28 : decode cX10_between 28 = .ok (.getfield 32, 3) := by decide +kernel
theorem dX10_between_31 : decode cX10_between 31 = .ok (.iload 6, 2) := by decide +kernel
theorem dX10_between_33 : decode cX10_between 33 = .ok (.iaload, 1) := by decide +kernel
theorem dX10_between_34 : decode cX10_between 34 = .ok (.iload_n 2, 1) := by decide +kernel
theorem dX10_between_35 : decode cX10_between 35 = .ok (.if_icmp .ne 14, 3) := by decide +kernel
theorem dX10_between_38 : decode cX10_between 38 = .ok (.aload_n 0, 1) := by decide +kernel
theorem dX10_between_39 : decode cX10_between 39 = .ok (.getfield 35, 3) := by decide +kernel
theorem dX10_between_42 : decode cX10_between 42 = .ok (.iload 6, 2) := by decide +kernel
theorem dX10_between_44 : decode cX10_between 44 = .ok (.iaload, 1) := by decide +kernel
theorem dX10_between_45 : decode cX10_between 45 = .ok (.iload_n 3, 1) := by decide +kernel
theorem dX10_between_46 : decode cX10_between 46 = .ok (.if_icmp .eq 25, 3) := by decide +kernel
theorem dX10_between_49 : decode cX10_between 49 = .ok (.aload_n 0, 1) := by decide +kernel
theorem dX10_between_50 : decode cX10_between 50 = .ok (.getfield 32, 3) := by decide +kernel
theorem dX10_between_53 : decode cX10_between 53 = .ok (.iload 6, 2) := by decide +kernel
theorem dX10_between_55 : decode cX10_between 55 = .ok (.iaload, 1) := by decide +kernel
theorem dX10_between_56 : decode cX10_between 56 = .ok (.iload_n 3, 1) := by decide +kernel
theorem dX10_between_57 : decode cX10_between 57 = .ok (.if_icmp .ne 18, 3) := by decide +kernel
theorem dX10_between_60 : decode cX10_between 60 = .ok (.aload_n 0, 1) := by decide +kernel
theorem dX10_between_61 : decode cX10_between 61 = .ok (.getfield 35, 3) := by decide +kernel
theorem dX10_between_64 : decode cX10_between 64 = .ok (.iload 6, 2) := by decide +kernel
theorem dX10_between_66 : decode cX10_between 66 = .ok (.iaload, 1) := by decide +kernel
theorem dX10_between_67 : decode cX10_between 67 = .ok (.iload_n 2, 1) := by decide +kernel
theorem dX10_between_68 : decode cX10_between 68 = .ok (.if_icmp .ne 7, 3) := by decide +kernel
theorem dX10_between_71 : decode cX10_between 71 = .ok (.iconst 1, 1) := by decide +kernel
theorem dX10_between_72 : decode cX10_between 72 = .ok (.goto 4, 3) := by decide +kernel
theorem dX10_between_75 : decode cX10_between 75 = .ok (.iconst 0, 1) := by decide +kernel
theorem dX10_between_76 : decode cX10_between 76 = .ok (.istore 7, 2) := by decide +kernel
theorem dX10_between_78 : decode cX10_between 78 = .ok (.iload 7, 2) := by decide +kernel
theorem dX10_between_80 : decode cX10_between 80 = .ok (.ifCond .eq 8, 3) := by decide +kernel
theorem dX10_between_83 : decode cX10_between 83 = .ok (.iload 5, 2) := by decide +kernel
theorem dX10_between_85 : decode cX10_between 85 = .ok (.goto 5, 3) := by decide +kernel
theorem dX10_between_88 : decode cX10_between 88 = .ok (.iload 4, 2) := by decide +kernel
theorem dX10_between_90 : decode cX10_between 90 = .ok (.istore 4, 2) := by decide +kernel
theorem dX10_between_92 : decode cX10_between 92 = .ok (.iinc 5 1, 3) := by decide +kernel
theorem dX10_between_95 : decode cX10_between 95 = .ok (.goto (-88), 3) := by decide +kernel
theorem dX10_between_98 : decode cX10_between 98 = .ok (.iload 4, 2) := by decide +kernel
theorem dX10_between_100 : decode cX10_between 100 = .ok (.ireturn, 1) := by decide +kernel
theorem dX10_streetsAt_0 : decode cX10_streetsAt 0 = .ok (.iconst 0, 1) := by decide +kernel
theorem dX10_streetsAt_1 : decode cX10_streetsAt 1 = .ok (.istore_n 3, 1) := by decide +kernel
theorem dX10_streetsAt_2 : decode cX10_streetsAt 2 = .ok (.iconst 0, 1) := by decide +kernel
theorem dX10_streetsAt_3 : decode cX10_streetsAt 3 = .ok (.istore 4, 2) := by decide +kernel
theorem dX10_streetsAt_5 : decode cX10_streetsAt 5 = .ok (.iload 4, 2) := by decide +kernel
theorem dX10_streetsAt_7 : decode cX10_streetsAt 7 = .ok (.aload_n 0, 1) := by decide +kernel
theorem dX10_streetsAt_8 : decode cX10_streetsAt 8 = .ok (.getfield 20, 3) := by decide +kernel
theorem dX10_streetsAt_11 : decode cX10_streetsAt 11 = .ok (.iload_n 1, 1) := by decide +kernel
theorem dX10_streetsAt_12 : decode cX10_streetsAt 12 = .ok (.iaload, 1) := by decide +kernel
theorem dX10_streetsAt_13 : decode cX10_streetsAt 13 = .ok (.if_icmp .ge 48, 3) := by decide +kernel
theorem dX10_streetsAt_16 : decode cX10_streetsAt 16 = .ok (.bipush 8, 2) := by decide +kernel
theorem dX10_streetsAt_18 : decode cX10_streetsAt 18 = .ok (.iload_n 1, 1) := by decide +kernel
theorem dX10_streetsAt_19 : decode cX10_streetsAt 19 = .ok (.imul, 1) := by decide +kernel
theorem dX10_streetsAt_20 : decode cX10_streetsAt 20 = .ok (.iload 4, 2) := by decide +kernel
theorem dX10_streetsAt_22 : decode cX10_streetsAt 22 = .ok (.iadd, 1) := by decide +kernel
theorem dX10_streetsAt_23 : decode cX10_streetsAt 23 = .ok (.istore 5, 2) := by decide +kernel
theorem dX10_streetsAt_25 : decode cX10_streetsAt 25 = .ok (.iload_n 3, 1) := by decide +kernel
theorem dX10_streetsAt_26 : decode cX10_streetsAt 26 = .ok (.aload_n 0, 1) := by decide +kernel
theorem dX10_streetsAt_27 : decode cX10_streetsAt 27 = .ok (.getfield 32, 3) := by decide +kernel
theorem dX10_streetsAt_30 : decode cX10_streetsAt 30 = .ok (.iload 5, 2) := by decide +kernel
theorem dX10_streetsAt_32 : decode cX10_streetsAt 32 = .ok (.iaload, 1) := by decide +kernel
theorem dX10_streetsAt_33 : decode cX10_streetsAt 33 = .ok (.iload_n 2, 1) := by decide +kernel
theorem dX10_streetsAt_34 : decode cX10_streetsAt 34 = .ok (.if_icmp .eq 14, 3) := by decide +kernel
theorem dX10_streetsAt_37 : decode cX10_streetsAt 37 = .ok (.aload_n 0, 1) := by decide +kernel
theorem dX10_streetsAt_38 : decode cX10_streetsAt 38 = .ok (.getfield 35, 3) := by decide +kernel
theorem dX10_streetsAt_41 : decode cX10_streetsAt 41 = .ok (.iload 5, 2) := by decide +kernel
theorem dX10_streetsAt_43 : decode cX10_streetsAt 43 = .ok (.iaload, 1) := by decide +kernel
theorem dX10_streetsAt_44 : decode cX10_streetsAt 44 = .ok (.iload_n 2, 1) := by decide +kernel
theorem dX10_streetsAt_45 : decode cX10_streetsAt 45 = .ok (.if_icmp .ne 7, 3) := by decide +kernel
theorem dX10_streetsAt_48 : decode cX10_streetsAt 48 = .ok (.iconst 1, 1) := by decide +kernel
theorem dX10_streetsAt_49 : decode cX10_streetsAt 49 = .ok (.goto 4, 3) := by decide +kernel
theorem dX10_streetsAt_52 : decode cX10_streetsAt 52 = .ok (.iconst 0, 1) := by decide +kernel
theorem dX10_streetsAt_53 : decode cX10_streetsAt 53 = .ok (.iadd, 1) := by decide +kernel
theorem dX10_streetsAt_54 : decode cX10_streetsAt 54 = .ok (.istore_n 3, 1) := by decide +kernel
theorem dX10_streetsAt_55 : decode cX10_streetsAt 55 = .ok (.iinc 4 1, 3) := by decide +kernel
theorem dX10_streetsAt_58 : decode cX10_streetsAt 58 = .ok (.goto (-53), 3) := by decide +kernel
theorem dX10_streetsAt_61 : decode cX10_streetsAt 61 = .ok (.iload_n 3, 1) := by decide +kernel
theorem dX10_streetsAt_62 : decode cX10_streetsAt 62 = .ok (.ireturn, 1) := by decide +kernel
theorem dX10_nearOf_0 : decode cX10_nearOf 0 = .ok (.aload_n 0, 1) := by decide +kernel
theorem dX10_nearOf_1 : decode cX10_nearOf 1 = .ok (.getfield 23, 3) := by decide +kernel
theorem dX10_nearOf_4 : decode cX10_nearOf 4 = .ok (.iload_n 1, 1) := by decide +kernel
theorem dX10_nearOf_5 : decode cX10_nearOf 5 = .ok (.iaload, 1) := by decide +kernel
theorem dX10_nearOf_6 : decode cX10_nearOf 6 = .ok (.istore_n 2, 1) := by decide +kernel
theorem dX10_nearOf_7 : decode cX10_nearOf 7 = .ok (.iload_n 2, 1) := by decide +kernel
theorem dX10_nearOf_8 : decode cX10_nearOf 8 = .ok (.iconst 2, 1) := by decide +kernel
theorem dX10_nearOf_9 : decode cX10_nearOf 9 = .ok (.if_icmp .ne 26, 3) := by decide +kernel
theorem dX10_nearOf_12 : decode cX10_nearOf 12 = .ok (.aload_n 0, 1) := by decide +kernel
theorem dX10_nearOf_13 : decode cX10_nearOf 13 = .ok (.getfield 7, 3) := by decide +kernel
theorem dX10_nearOf_16 : decode cX10_nearOf 16 = .ok (.iconst 5, 1) := by decide +kernel
theorem dX10_nearOf_17 : decode cX10_nearOf 17 = .ok (.iadd, 1) := by decide +kernel
theorem dX10_nearOf_18 : decode cX10_nearOf 18 = .ok (.bipush 20, 2) := by decide +kernel
theorem dX10_nearOf_20 : decode cX10_nearOf 20 = .ok (.if_icmp .ge 12, 3) := by decide +kernel
theorem dX10_nearOf_23 : decode cX10_nearOf 23 = .ok (.aload_n 0, 1) := by decide +kernel
theorem dX10_nearOf_24 : decode cX10_nearOf 24 = .ok (.getfield 7, 3) := by decide +kernel
theorem dX10_nearOf_27 : decode cX10_nearOf 27 = .ok (.iconst 5, 1) := by decide +kernel
theorem dX10_nearOf_28 : decode cX10_nearOf 28 = .ok (.iadd, 1) := by decide +kernel
theorem dX10_nearOf_29 : decode cX10_nearOf 29 = .ok (.goto 5, 3) := by decide +kernel
theorem dX10_nearOf_32 : decode cX10_nearOf 32 = .ok (.bipush 20, 2) := by decide +kernel
theorem dX10_nearOf_34 : decode cX10_nearOf 34 = .ok (.ireturn, 1) := by decide +kernel
theorem dX10_nearOf_35 : decode cX10_nearOf 35 = .ok (.iload_n 2, 1) := by decide +kernel
theorem dX10_nearOf_36 : decode cX10_nearOf 36 = .ok (.iconst 1, 1) := by decide +kernel
theorem dX10_nearOf_37 : decode cX10_nearOf 37 = .ok (.if_icmp .ne 12, 3) := by decide +kernel
theorem dX10_nearOf_40 : decode cX10_nearOf 40 = .ok (.aload_n 0, 1) := by decide +kernel
theorem dX10_nearOf_41 : decode cX10_nearOf 41 = .ok (.getfield 7, 3) := by decide +kernel
theorem dX10_nearOf_44 : decode cX10_nearOf 44 = .ok (.iconst 2, 1) := by decide +kernel
theorem dX10_nearOf_45 : decode cX10_nearOf 45 = .ok (.idiv, 1) := by decide +kernel
theorem dX10_nearOf_46 : decode cX10_nearOf 46 = .ok (.goto 23, 3) := by decide +kernel
theorem dX10_nearOf_49 : decode cX10_nearOf 49 = .ok (.iload_n 2, 1) := by decide +kernel
theorem dX10_nearOf_50 : decode cX10_nearOf 50 = .ok (.iconst 3, 1) := by decide +kernel
theorem dX10_nearOf_51 : decode cX10_nearOf 51 = .ok (.if_icmp .ne 14, 3) := by decide +kernel
theorem dX10_nearOf_54 : decode cX10_nearOf 54 = .ok (.aload_n 0, 1) := by decide +kernel
theorem dX10_nearOf_55 : decode cX10_nearOf 55 = .ok (.getfield 7, 3) := by decide +kernel
theorem dX10_nearOf_58 : decode cX10_nearOf 58 = .ok (.iconst 2, 1) := by decide +kernel
theorem dX10_nearOf_59 : decode cX10_nearOf 59 = .ok (.idiv, 1) := by decide +kernel
theorem dX10_nearOf_60 : decode cX10_nearOf 60 = .ok (.iconst 1, 1) := by decide +kernel
theorem dX10_nearOf_61 : decode cX10_nearOf 61 = .ok (.iadd, 1) := by decide +kernel
theorem dX10_nearOf_62 : decode cX10_nearOf 62 = .ok (.goto 7, 3) := by decide +kernel
theorem dX10_nearOf_65 : decode cX10_nearOf 65 = .ok (.aload_n 0, 1) := by decide +kernel
theorem dX10_nearOf_66 : decode cX10_nearOf 66 = .ok (.getfield 7, 3) := by decide +kernel
theorem dX10_nearOf_69 : decode cX10_nearOf 69 = .ok (.ireturn, 1) := by decide +kernel
theorem dX10_meeting_0 : decode cX10_meeting 0 = .ok (.aload_n 0, 1) := by decide +kernel
theorem dX10_meeting_1 : decode cX10_meeting 1 = .ok (.iload_n 1, 1) := by decide +kernel
theorem dX10_meeting_2 : decode cX10_meeting 2 = .ok (.iload_n 2, 1) := by decide +kernel
theorem dX10_meeting_3 : decode cX10_meeting 3 = .ok (.invokevirtual 92, 3) := by decide +kernel
theorem dX10_meeting_6 : decode cX10_meeting 6 = .ok (.ifCond .eq 12, 3) := by decide +kernel
theorem dX10_meeting_9 : decode cX10_meeting 9 = .ok (.iload_n 3, 1) := by decide +kernel
theorem dX10_meeting_10 : decode cX10_meeting 10 = .ok (.iconst 0, 1) := by decide +kernel
theorem dX10_meeting_11 : decode cX10_meeting 11 = .ok (.iconst 4, 1) := by decide +kernel
theorem dX10_meeting_12 : decode cX10_meeting 12 = .ok (.invokestatic 84, 3) := by decide +kernel
theorem dX10_meeting_15 : decode cX10_meeting 15 = .ok (.ifCond .ne 5, 3) := by decide +kernel
theorem dX10_meeting_18 : decode cX10_meeting 18 = .ok (.iconst (-1), 1) := by decide +kernel
theorem dX10_meeting_19 : decode cX10_meeting 19 = .ok (.ireturn, 1) := by decide +kernel
theorem dX10_meeting_20 : decode cX10_meeting 20 = .ok (.bipush 8, 2) := by decide +kernel
theorem dX10_meeting_22 : decode cX10_meeting 22 = .ok (.iload_n 1, 1) := by decide +kernel
theorem dX10_meeting_23 : decode cX10_meeting 23 = .ok (.imul, 1) := by decide +kernel
theorem dX10_meeting_24 : decode cX10_meeting 24 = .ok (.iload_n 2, 1) := by decide +kernel
theorem dX10_meeting_25 : decode cX10_meeting 25 = .ok (.iadd, 1) := by decide +kernel
theorem dX10_meeting_26 : decode cX10_meeting 26 = .ok (.istore 4, 2) := by decide +kernel
theorem dX10_meeting_28 : decode cX10_meeting 28 = .ok (.iload_n 3, 1) := by decide +kernel
theorem dX10_meeting_29 : decode cX10_meeting 29 = .ok (.tableswitch 62 0 3 #[31, 39, 47, 55], 31) := by decide +kernel
theorem dX10_meeting_60 : decode cX10_meeting 60 = .ok (.aload_n 0, 1) := by decide +kernel
theorem dX10_meeting_61 : decode cX10_meeting 61 = .ok (.getfield 23, 3) := by decide +kernel
theorem dX10_meeting_64 : decode cX10_meeting 64 = .ok (.iload 4, 2) := by decide +kernel
theorem dX10_meeting_66 : decode cX10_meeting 66 = .ok (.iaload, 1) := by decide +kernel
theorem dX10_meeting_67 : decode cX10_meeting 67 = .ok (.ireturn, 1) := by decide +kernel
theorem dX10_meeting_68 : decode cX10_meeting 68 = .ok (.aload_n 0, 1) := by decide +kernel
theorem dX10_meeting_69 : decode cX10_meeting 69 = .ok (.getfield 26, 3) := by decide +kernel
theorem dX10_meeting_72 : decode cX10_meeting 72 = .ok (.iload 4, 2) := by decide +kernel
theorem dX10_meeting_74 : decode cX10_meeting 74 = .ok (.iaload, 1) := by decide +kernel
theorem dX10_meeting_75 : decode cX10_meeting 75 = .ok (.ireturn, 1) := by decide +kernel
theorem dX10_meeting_76 : decode cX10_meeting 76 = .ok (.aload_n 0, 1) := by decide +kernel
theorem dX10_meeting_77 : decode cX10_meeting 77 = .ok (.getfield 29, 3) := by decide +kernel
theorem dX10_meeting_80 : decode cX10_meeting 80 = .ok (.iload 4, 2) := by decide +kernel
theorem dX10_meeting_82 : decode cX10_meeting 82 = .ok (.iaload, 1) := by decide +kernel
theorem dX10_meeting_83 : decode cX10_meeting 83 = .ok (.ireturn, 1) := by decide +kernel
theorem dX10_meeting_84 : decode cX10_meeting 84 = .ok (.aload_n 0, 1) := by decide +kernel
theorem dX10_meeting_85 : decode cX10_meeting 85 = .ok (.iload 4, 2) := by decide +kernel
theorem dX10_meeting_87 : decode cX10_meeting 87 = .ok (.invokevirtual 96, 3) := by decide +kernel
theorem dX10_meeting_90 : decode cX10_meeting 90 = .ok (.ireturn, 1) := by decide +kernel
theorem dX10_meeting_91 : decode cX10_meeting 91 = .ok (.aload_n 0, 1) := by decide +kernel
theorem dX10_meeting_92 : decode cX10_meeting 92 = .ok (.iload_n 1, 1) := by decide +kernel
theorem dX10_meeting_93 : decode cX10_meeting 93 = .ok (.iload_n 2, 1) := by decide +kernel
theorem dX10_meeting_94 : decode cX10_meeting 94 = .ok (.invokevirtual 100, 3) := by decide +kernel
theorem dX10_meeting_97 : decode cX10_meeting 97 = .ok (.ireturn, 1) := by decide +kernel
theorem dX10_street_0 : decode cX10_street 0 = .ok (.aload_n 0, 1) := by decide +kernel
theorem dX10_street_1 : decode cX10_street 1 = .ok (.iload_n 1, 1) := by decide +kernel
theorem dX10_street_2 : decode cX10_street 2 = .ok (.iload_n 2, 1) := by decide +kernel
theorem dX10_street_3 : decode cX10_street 3 = .ok (.invokevirtual 104, 3) := by decide +kernel
theorem dX10_street_6 : decode cX10_street 6 = .ok (.ifCond .eq 12, 3) := by decide +kernel
theorem dX10_street_9 : decode cX10_street 9 = .ok (.iload_n 3, 1) := by decide +kernel
theorem dX10_street_10 : decode cX10_street 10 = .ok (.iconst 0, 1) := by decide +kernel
theorem dX10_street_11 : decode cX10_street 11 = .ok (.iconst 2, 1) := by decide +kernel
theorem dX10_street_12 : decode cX10_street 12 = .ok (.invokestatic 84, 3) := by decide +kernel
theorem dX10_street_15 : decode cX10_street 15 = .ok (.ifCond .ne 5, 3) := by decide +kernel
theorem dX10_street_18 : decode cX10_street 18 = .ok (.iconst (-1), 1) := by decide +kernel
theorem dX10_street_19 : decode cX10_street 19 = .ok (.ireturn, 1) := by decide +kernel
theorem dX10_street_20 : decode cX10_street 20 = .ok (.bipush 8, 2) := by decide +kernel
theorem dX10_street_22 : decode cX10_street 22 = .ok (.iload_n 1, 1) := by decide +kernel
theorem dX10_street_23 : decode cX10_street 23 = .ok (.imul, 1) := by decide +kernel
theorem dX10_street_24 : decode cX10_street 24 = .ok (.iload_n 2, 1) := by decide +kernel
theorem dX10_street_25 : decode cX10_street 25 = .ok (.iadd, 1) := by decide +kernel
theorem dX10_street_26 : decode cX10_street 26 = .ok (.istore 4, 2) := by decide +kernel
theorem dX10_street_28 : decode cX10_street 28 = .ok (.iload_n 3, 1) := by decide +kernel
theorem dX10_street_29 : decode cX10_street 29 = .ok (.ifCond .ne 13, 3) := by decide +kernel
theorem dX10_street_32 : decode cX10_street 32 = .ok (.aload_n 0, 1) := by decide +kernel
theorem dX10_street_33 : decode cX10_street 33 = .ok (.getfield 32, 3) := by decide +kernel
theorem dX10_street_36 : decode cX10_street 36 = .ok (.iload 4, 2) := by decide +kernel
theorem dX10_street_38 : decode cX10_street 38 = .ok (.iaload, 1) := by decide +kernel
theorem dX10_street_39 : decode cX10_street 39 = .ok (.goto 25, 3) := by decide +kernel
theorem dX10_street_42 : decode cX10_street 42 = .ok (.iload_n 3, 1) := by decide +kernel
theorem dX10_street_43 : decode cX10_street 43 = .ok (.iconst 1, 1) := by decide +kernel
theorem dX10_street_44 : decode cX10_street 44 = .ok (.if_icmp .ne 13, 3) := by decide +kernel
theorem dX10_street_47 : decode cX10_street 47 = .ok (.aload_n 0, 1) := by decide +kernel
theorem dX10_street_48 : decode cX10_street 48 = .ok (.getfield 35, 3) := by decide +kernel
theorem dX10_street_51 : decode cX10_street 51 = .ok (.iload 4, 2) := by decide +kernel
theorem dX10_street_53 : decode cX10_street 53 = .ok (.iaload, 1) := by decide +kernel
theorem dX10_street_54 : decode cX10_street 54 = .ok (.goto 10, 3) := by decide +kernel
theorem dX10_street_57 : decode cX10_street 57 = .ok (.aload_n 0, 1) := by decide +kernel
theorem dX10_street_58 : decode cX10_street 58 = .ok (.getfield 38, 3) := by decide +kernel
theorem dX10_street_61 : decode cX10_street 61 = .ok (.iload 4, 2) := by decide +kernel
theorem dX10_street_63 : decode cX10_street 63 = .ok (.iaload, 1) := by decide +kernel
theorem dX10_street_64 : decode cX10_street 64 = .ok (.ireturn, 1) := by decide +kernel
theorem dX10_lays_0 : decode cX10_lays 0 = .ok (.aload_n 1, 1) := by decide +kernel
theorem dX10_lays_1 : decode cX10_lays 1 = .ok (.iload_n 2, 1) := by decide +kernel
theorem dX10_lays_2 : decode cX10_lays 2 = .ok (.aload_n 0, 1) := by decide +kernel
theorem dX10_lays_3 : decode cX10_lays 3 = .ok (.getfield 7, 3) := by decide +kernel
theorem dX10_lays_6 : decode cX10_lays 6 = .ok (.iastore, 1) := by decide +kernel
theorem dX10_lays_7 : decode cX10_lays 7 = .ok (.aload_n 1, 1) := by decide +kernel
theorem dX10_lays_8 : decode cX10_lays 8 = .ok (.iload_n 2, 1) := by decide +kernel
theorem dX10_lays_9 : decode cX10_lays 9 = .ok (.iconst 1, 1) := by decide +kernel
theorem dX10_lays_10 : decode cX10_lays 10 = .ok (.iadd, 1) := by decide +kernel
theorem dX10_lays_11 : decode cX10_lays 11 = .ok (.aload_n 0, 1) := by decide +kernel
theorem dX10_lays_12 : decode cX10_lays 12 = .ok (.getfield 13, 3) := by decide +kernel
theorem dX10_lays_15 : decode cX10_lays 15 = .ok (.iastore, 1) := by decide +kernel
theorem dX10_lays_16 : decode cX10_lays 16 = .ok (.iconst 0, 1) := by decide +kernel
theorem dX10_lays_17 : decode cX10_lays 17 = .ok (.istore_n 3, 1) := by decide +kernel
theorem dX10_lays_18 : decode cX10_lays 18 = .ok (.iload_n 3, 1) := by decide +kernel
theorem dX10_lays_19 : decode cX10_lays 19 = .ok (.iconst 2, 1) := by decide +kernel
theorem dX10_lays_20 : decode cX10_lays 20 = .ok (.if_icmp .ge 35, 3) := by decide +kernel
theorem dX10_lays_23 : decode cX10_lays 23 = .ok (.aload_n 1, 1) := by decide +kernel
theorem dX10_lays_24 : decode cX10_lays 24 = .ok (.iload_n 2, 1) := by decide +kernel
theorem dX10_lays_25 : decode cX10_lays 25 = .ok (.iconst 2, 1) := by decide +kernel
theorem dX10_lays_26 : decode cX10_lays 26 = .ok (.iadd, 1) := by decide +kernel
theorem dX10_lays_27 : decode cX10_lays 27 = .ok (.iload_n 3, 1) := by decide +kernel
theorem dX10_lays_28 : decode cX10_lays 28 = .ok (.iadd, 1) := by decide +kernel
theorem dX10_lays_29 : decode cX10_lays 29 = .ok (.aload_n 0, 1) := by decide +kernel
theorem dX10_lays_30 : decode cX10_lays 30 = .ok (.getfield 16, 3) := by decide +kernel
theorem dX10_lays_33 : decode cX10_lays 33 = .ok (.iload_n 3, 1) := by decide +kernel
theorem dX10_lays_34 : decode cX10_lays 34 = .ok (.iaload, 1) := by decide +kernel
theorem dX10_lays_35 : decode cX10_lays 35 = .ok (.iastore, 1) := by decide +kernel
theorem dX10_lays_36 : decode cX10_lays 36 = .ok (.aload_n 1, 1) := by decide +kernel
theorem dX10_lays_37 : decode cX10_lays 37 = .ok (.iload_n 2, 1) := by decide +kernel
theorem dX10_lays_38 : decode cX10_lays 38 = .ok (.iconst 4, 1) := by decide +kernel
theorem dX10_lays_39 : decode cX10_lays 39 = .ok (.iadd, 1) := by decide +kernel
theorem dX10_lays_40 : decode cX10_lays 40 = .ok (.iload_n 3, 1) := by decide +kernel
theorem dX10_lays_41 : decode cX10_lays 41 = .ok (.iadd, 1) := by decide +kernel
theorem dX10_lays_42 : decode cX10_lays 42 = .ok (.aload_n 0, 1) := by decide +kernel
theorem dX10_lays_43 : decode cX10_lays 43 = .ok (.getfield 20, 3) := by decide +kernel
theorem dX10_lays_46 : decode cX10_lays 46 = .ok (.iload_n 3, 1) := by decide +kernel
theorem dX10_lays_47 : decode cX10_lays 47 = .ok (.iaload, 1) := by decide +kernel
theorem dX10_lays_48 : decode cX10_lays 48 = .ok (.iastore, 1) := by decide +kernel
theorem dX10_lays_49 : decode cX10_lays 49 = .ok (.iinc 3 1, 3) := by decide +kernel
theorem dX10_lays_52 : decode cX10_lays 52 = .ok (.goto (-34), 3) := by decide +kernel
theorem dX10_lays_55 : decode cX10_lays 55 = .ok (.iconst 0, 1) := by decide +kernel
theorem dX10_lays_56 : decode cX10_lays 56 = .ok (.istore_n 3, 1) := by decide +kernel
theorem dX10_lays_57 : decode cX10_lays 57 = .ok (.iload_n 3, 1) := by decide +kernel
theorem dX10_lays_58 : decode cX10_lays 58 = .ok (.bipush 16, 2) := by decide +kernel
theorem dX10_lays_60 : decode cX10_lays 60 = .ok (.if_icmp .ge 93, 3) := by decide +kernel
theorem dX10_lays_63 : decode cX10_lays 63 = .ok (.aload_n 1, 1) := by decide +kernel
theorem dX10_lays_64 : decode cX10_lays 64 = .ok (.iload_n 2, 1) := by decide +kernel
theorem dX10_lays_65 : decode cX10_lays 65 = .ok (.bipush 6, 2) := by decide +kernel
theorem dX10_lays_67 : decode cX10_lays 67 = .ok (.iadd, 1) := by decide +kernel
theorem dX10_lays_68 : decode cX10_lays 68 = .ok (.iload_n 3, 1) := by decide +kernel
theorem dX10_lays_69 : decode cX10_lays 69 = .ok (.iadd, 1) := by decide +kernel
theorem dX10_lays_70 : decode cX10_lays 70 = .ok (.aload_n 0, 1) := by decide +kernel
theorem dX10_lays_71 : decode cX10_lays 71 = .ok (.getfield 23, 3) := by decide +kernel
theorem dX10_lays_74 : decode cX10_lays 74 = .ok (.iload_n 3, 1) := by decide +kernel
theorem dX10_lays_75 : decode cX10_lays 75 = .ok (.iaload, 1) := by decide +kernel
theorem dX10_lays_76 : decode cX10_lays 76 = .ok (.iastore, 1) := by decide +kernel
theorem dX10_lays_77 : decode cX10_lays 77 = .ok (.aload_n 1, 1) := by decide +kernel
theorem dX10_lays_78 : decode cX10_lays 78 = .ok (.iload_n 2, 1) := by decide +kernel
theorem dX10_lays_79 : decode cX10_lays 79 = .ok (.bipush 22, 2) := by decide +kernel
theorem dX10_lays_81 : decode cX10_lays 81 = .ok (.iadd, 1) := by decide +kernel
theorem dX10_lays_82 : decode cX10_lays 82 = .ok (.iload_n 3, 1) := by decide +kernel
theorem dX10_lays_83 : decode cX10_lays 83 = .ok (.iadd, 1) := by decide +kernel
theorem dX10_lays_84 : decode cX10_lays 84 = .ok (.aload_n 0, 1) := by decide +kernel
theorem dX10_lays_85 : decode cX10_lays 85 = .ok (.getfield 26, 3) := by decide +kernel
theorem dX10_lays_88 : decode cX10_lays 88 = .ok (.iload_n 3, 1) := by decide +kernel
theorem dX10_lays_89 : decode cX10_lays 89 = .ok (.iaload, 1) := by decide +kernel
theorem dX10_lays_90 : decode cX10_lays 90 = .ok (.iastore, 1) := by decide +kernel
theorem dX10_lays_91 : decode cX10_lays 91 = .ok (.aload_n 1, 1) := by decide +kernel
theorem dX10_lays_92 : decode cX10_lays 92 = .ok (.iload_n 2, 1) := by decide +kernel
theorem dX10_lays_93 : decode cX10_lays 93 = .ok (.bipush 38, 2) := by decide +kernel
theorem dX10_lays_95 : decode cX10_lays 95 = .ok (.iadd, 1) := by decide +kernel
theorem dX10_lays_96 : decode cX10_lays 96 = .ok (.iload_n 3, 1) := by decide +kernel
theorem dX10_lays_97 : decode cX10_lays 97 = .ok (.iadd, 1) := by decide +kernel
theorem dX10_lays_98 : decode cX10_lays 98 = .ok (.aload_n 0, 1) := by decide +kernel
theorem dX10_lays_99 : decode cX10_lays 99 = .ok (.getfield 29, 3) := by decide +kernel
theorem dX10_lays_102 : decode cX10_lays 102 = .ok (.iload_n 3, 1) := by decide +kernel
theorem dX10_lays_103 : decode cX10_lays 103 = .ok (.iaload, 1) := by decide +kernel
theorem dX10_lays_104 : decode cX10_lays 104 = .ok (.iastore, 1) := by decide +kernel
theorem dX10_lays_105 : decode cX10_lays 105 = .ok (.aload_n 1, 1) := by decide +kernel
theorem dX10_lays_106 : decode cX10_lays 106 = .ok (.iload_n 2, 1) := by decide +kernel
theorem dX10_lays_107 : decode cX10_lays 107 = .ok (.bipush 54, 2) := by decide +kernel
theorem dX10_lays_109 : decode cX10_lays 109 = .ok (.iadd, 1) := by decide +kernel
theorem dX10_lays_110 : decode cX10_lays 110 = .ok (.iload_n 3, 1) := by decide +kernel
theorem dX10_lays_111 : decode cX10_lays 111 = .ok (.iadd, 1) := by decide +kernel
theorem dX10_lays_112 : decode cX10_lays 112 = .ok (.aload_n 0, 1) := by decide +kernel
theorem dX10_lays_113 : decode cX10_lays 113 = .ok (.getfield 32, 3) := by decide +kernel
theorem dX10_lays_116 : decode cX10_lays 116 = .ok (.iload_n 3, 1) := by decide +kernel
theorem dX10_lays_117 : decode cX10_lays 117 = .ok (.iaload, 1) := by decide +kernel
theorem dX10_lays_118 : decode cX10_lays 118 = .ok (.iastore, 1) := by decide +kernel
theorem dX10_lays_119 : decode cX10_lays 119 = .ok (.aload_n 1, 1) := by decide +kernel
theorem dX10_lays_120 : decode cX10_lays 120 = .ok (.iload_n 2, 1) := by decide +kernel
theorem dX10_lays_121 : decode cX10_lays 121 = .ok (.bipush 70, 2) := by decide +kernel
theorem dX10_lays_123 : decode cX10_lays 123 = .ok (.iadd, 1) := by decide +kernel
theorem dX10_lays_124 : decode cX10_lays 124 = .ok (.iload_n 3, 1) := by decide +kernel
theorem dX10_lays_125 : decode cX10_lays 125 = .ok (.iadd, 1) := by decide +kernel
theorem dX10_lays_126 : decode cX10_lays 126 = .ok (.aload_n 0, 1) := by decide +kernel
theorem dX10_lays_127 : decode cX10_lays 127 = .ok (.getfield 35, 3) := by decide +kernel
theorem dX10_lays_130 : decode cX10_lays 130 = .ok (.iload_n 3, 1) := by decide +kernel
theorem dX10_lays_131 : decode cX10_lays 131 = .ok (.iaload, 1) := by decide +kernel
theorem dX10_lays_132 : decode cX10_lays 132 = .ok (.iastore, 1) := by decide +kernel
theorem dX10_lays_133 : decode cX10_lays 133 = .ok (.aload_n 1, 1) := by decide +kernel
theorem dX10_lays_134 : decode cX10_lays 134 = .ok (.iload_n 2, 1) := by decide +kernel
theorem dX10_lays_135 : decode cX10_lays 135 = .ok (.bipush 86, 2) := by decide +kernel
theorem dX10_lays_137 : decode cX10_lays 137 = .ok (.iadd, 1) := by decide +kernel
theorem dX10_lays_138 : decode cX10_lays 138 = .ok (.iload_n 3, 1) := by decide +kernel
theorem dX10_lays_139 : decode cX10_lays 139 = .ok (.iadd, 1) := by decide +kernel
theorem dX10_lays_140 : decode cX10_lays 140 = .ok (.aload_n 0, 1) := by decide +kernel
theorem dX10_lays_141 : decode cX10_lays 141 = .ok (.getfield 38, 3) := by decide +kernel
theorem dX10_lays_144 : decode cX10_lays 144 = .ok (.iload_n 3, 1) := by decide +kernel
theorem dX10_lays_145 : decode cX10_lays 145 = .ok (.iaload, 1) := by decide +kernel
theorem dX10_lays_146 : decode cX10_lays 146 = .ok (.iastore, 1) := by decide +kernel
theorem dX10_lays_147 : decode cX10_lays 147 = .ok (.iinc 3 1, 3) := by decide +kernel
theorem dX10_lays_150 : decode cX10_lays 150 = .ok (.goto (-93), 3) := by decide +kernel
theorem dX10_lays_153 : decode cX10_lays 153 = .ok (.return_, 1) := by decide +kernel
theorem dX10_takes_0 : decode cX10_takes 0 = .ok (.aload_n 0, 1) := by decide +kernel
theorem dX10_takes_1 : decode cX10_takes 1 = .ok (.aload_n 1, 1) := by decide +kernel
theorem dX10_takes_2 : decode cX10_takes 2 = .ok (.iload_n 2, 1) := by decide +kernel
theorem dX10_takes_3 : decode cX10_takes 3 = .ok (.iaload, 1) := by decide +kernel
theorem dX10_takes_4 : decode cX10_takes 4 = .ok (.putfield 7, 3) := by decide +kernel
theorem dX10_takes_7 : decode cX10_takes 7 = .ok (.aload_n 0, 1) := by decide +kernel
theorem dX10_takes_8 : decode cX10_takes 8 = .ok (.aload_n 1, 1) := by decide +kernel
theorem dX10_takes_9 : decode cX10_takes 9 = .ok (.iload_n 2, 1) := by decide +kernel
theorem dX10_takes_10 : decode cX10_takes 10 = .ok (.iconst 1, 1) := by decide +kernel
theorem dX10_takes_11 : decode cX10_takes 11 = .ok (.iadd, 1) := by decide +kernel
theorem dX10_takes_12 : decode cX10_takes 12 = .ok (.iaload, 1) := by decide +kernel
theorem dX10_takes_13 : decode cX10_takes 13 = .ok (.putfield 13, 3) := by decide +kernel
theorem dX10_takes_16 : decode cX10_takes 16 = .ok (.iconst 0, 1) := by decide +kernel
theorem dX10_takes_17 : decode cX10_takes 17 = .ok (.istore_n 3, 1) := by decide +kernel
theorem dX10_takes_18 : decode cX10_takes 18 = .ok (.iload_n 3, 1) := by decide +kernel
theorem dX10_takes_19 : decode cX10_takes 19 = .ok (.iconst 2, 1) := by decide +kernel
theorem dX10_takes_20 : decode cX10_takes 20 = .ok (.if_icmp .ge 35, 3) := by decide +kernel
theorem dX10_takes_23 : decode cX10_takes 23 = .ok (.aload_n 0, 1) := by decide +kernel
theorem dX10_takes_24 : decode cX10_takes 24 = .ok (.getfield 16, 3) := by decide +kernel
theorem dX10_takes_27 : decode cX10_takes 27 = .ok (.iload_n 3, 1) := by decide +kernel
theorem dX10_takes_28 : decode cX10_takes 28 = .ok (.aload_n 1, 1) := by decide +kernel
theorem dX10_takes_29 : decode cX10_takes 29 = .ok (.iload_n 2, 1) := by decide +kernel
theorem dX10_takes_30 : decode cX10_takes 30 = .ok (.iconst 2, 1) := by decide +kernel
theorem dX10_takes_31 : decode cX10_takes 31 = .ok (.iadd, 1) := by decide +kernel
theorem dX10_takes_32 : decode cX10_takes 32 = .ok (.iload_n 3, 1) := by decide +kernel
theorem dX10_takes_33 : decode cX10_takes 33 = .ok (.iadd, 1) := by decide +kernel
theorem dX10_takes_34 : decode cX10_takes 34 = .ok (.iaload, 1) := by decide +kernel
theorem dX10_takes_35 : decode cX10_takes 35 = .ok (.iastore, 1) := by decide +kernel
theorem dX10_takes_36 : decode cX10_takes 36 = .ok (.aload_n 0, 1) := by decide +kernel
theorem dX10_takes_37 : decode cX10_takes 37 = .ok (.getfield 20, 3) := by decide +kernel
theorem dX10_takes_40 : decode cX10_takes 40 = .ok (.iload_n 3, 1) := by decide +kernel
theorem dX10_takes_41 : decode cX10_takes 41 = .ok (.aload_n 1, 1) := by decide +kernel
theorem dX10_takes_42 : decode cX10_takes 42 = .ok (.iload_n 2, 1) := by decide +kernel
theorem dX10_takes_43 : decode cX10_takes 43 = .ok (.iconst 4, 1) := by decide +kernel
theorem dX10_takes_44 : decode cX10_takes 44 = .ok (.iadd, 1) := by decide +kernel
theorem dX10_takes_45 : decode cX10_takes 45 = .ok (.iload_n 3, 1) := by decide +kernel
theorem dX10_takes_46 : decode cX10_takes 46 = .ok (.iadd, 1) := by decide +kernel
theorem dX10_takes_47 : decode cX10_takes 47 = .ok (.iaload, 1) := by decide +kernel
theorem dX10_takes_48 : decode cX10_takes 48 = .ok (.iastore, 1) := by decide +kernel
theorem dX10_takes_49 : decode cX10_takes 49 = .ok (.iinc 3 1, 3) := by decide +kernel
theorem dX10_takes_52 : decode cX10_takes 52 = .ok (.goto (-34), 3) := by decide +kernel
theorem dX10_takes_55 : decode cX10_takes 55 = .ok (.iconst 0, 1) := by decide +kernel
theorem dX10_takes_56 : decode cX10_takes 56 = .ok (.istore_n 3, 1) := by decide +kernel
theorem dX10_takes_57 : decode cX10_takes 57 = .ok (.iload_n 3, 1) := by decide +kernel
theorem dX10_takes_58 : decode cX10_takes 58 = .ok (.bipush 16, 2) := by decide +kernel
theorem dX10_takes_60 : decode cX10_takes 60 = .ok (.if_icmp .ge 93, 3) := by decide +kernel
theorem dX10_takes_63 : decode cX10_takes 63 = .ok (.aload_n 0, 1) := by decide +kernel
theorem dX10_takes_64 : decode cX10_takes 64 = .ok (.getfield 23, 3) := by decide +kernel
theorem dX10_takes_67 : decode cX10_takes 67 = .ok (.iload_n 3, 1) := by decide +kernel
theorem dX10_takes_68 : decode cX10_takes 68 = .ok (.aload_n 1, 1) := by decide +kernel
theorem dX10_takes_69 : decode cX10_takes 69 = .ok (.iload_n 2, 1) := by decide +kernel
theorem dX10_takes_70 : decode cX10_takes 70 = .ok (.bipush 6, 2) := by decide +kernel
theorem dX10_takes_72 : decode cX10_takes 72 = .ok (.iadd, 1) := by decide +kernel
theorem dX10_takes_73 : decode cX10_takes 73 = .ok (.iload_n 3, 1) := by decide +kernel
theorem dX10_takes_74 : decode cX10_takes 74 = .ok (.iadd, 1) := by decide +kernel
theorem dX10_takes_75 : decode cX10_takes 75 = .ok (.iaload, 1) := by decide +kernel
theorem dX10_takes_76 : decode cX10_takes 76 = .ok (.iastore, 1) := by decide +kernel
theorem dX10_takes_77 : decode cX10_takes 77 = .ok (.aload_n 0, 1) := by decide +kernel
theorem dX10_takes_78 : decode cX10_takes 78 = .ok (.getfield 26, 3) := by decide +kernel
theorem dX10_takes_81 : decode cX10_takes 81 = .ok (.iload_n 3, 1) := by decide +kernel
theorem dX10_takes_82 : decode cX10_takes 82 = .ok (.aload_n 1, 1) := by decide +kernel
theorem dX10_takes_83 : decode cX10_takes 83 = .ok (.iload_n 2, 1) := by decide +kernel
theorem dX10_takes_84 : decode cX10_takes 84 = .ok (.bipush 22, 2) := by decide +kernel
theorem dX10_takes_86 : decode cX10_takes 86 = .ok (.iadd, 1) := by decide +kernel
theorem dX10_takes_87 : decode cX10_takes 87 = .ok (.iload_n 3, 1) := by decide +kernel
theorem dX10_takes_88 : decode cX10_takes 88 = .ok (.iadd, 1) := by decide +kernel
theorem dX10_takes_89 : decode cX10_takes 89 = .ok (.iaload, 1) := by decide +kernel
theorem dX10_takes_90 : decode cX10_takes 90 = .ok (.iastore, 1) := by decide +kernel
theorem dX10_takes_91 : decode cX10_takes 91 = .ok (.aload_n 0, 1) := by decide +kernel
theorem dX10_takes_92 : decode cX10_takes 92 = .ok (.getfield 29, 3) := by decide +kernel
theorem dX10_takes_95 : decode cX10_takes 95 = .ok (.iload_n 3, 1) := by decide +kernel
theorem dX10_takes_96 : decode cX10_takes 96 = .ok (.aload_n 1, 1) := by decide +kernel
theorem dX10_takes_97 : decode cX10_takes 97 = .ok (.iload_n 2, 1) := by decide +kernel
theorem dX10_takes_98 : decode cX10_takes 98 = .ok (.bipush 38, 2) := by decide +kernel
theorem dX10_takes_100 : decode cX10_takes 100 = .ok (.iadd, 1) := by decide +kernel
theorem dX10_takes_101 : decode cX10_takes 101 = .ok (.iload_n 3, 1) := by decide +kernel
theorem dX10_takes_102 : decode cX10_takes 102 = .ok (.iadd, 1) := by decide +kernel
theorem dX10_takes_103 : decode cX10_takes 103 = .ok (.iaload, 1) := by decide +kernel
theorem dX10_takes_104 : decode cX10_takes 104 = .ok (.iastore, 1) := by decide +kernel
theorem dX10_takes_105 : decode cX10_takes 105 = .ok (.aload_n 0, 1) := by decide +kernel
theorem dX10_takes_106 : decode cX10_takes 106 = .ok (.getfield 32, 3) := by decide +kernel
theorem dX10_takes_109 : decode cX10_takes 109 = .ok (.iload_n 3, 1) := by decide +kernel
theorem dX10_takes_110 : decode cX10_takes 110 = .ok (.aload_n 1, 1) := by decide +kernel
theorem dX10_takes_111 : decode cX10_takes 111 = .ok (.iload_n 2, 1) := by decide +kernel
theorem dX10_takes_112 : decode cX10_takes 112 = .ok (.bipush 54, 2) := by decide +kernel
theorem dX10_takes_114 : decode cX10_takes 114 = .ok (.iadd, 1) := by decide +kernel
theorem dX10_takes_115 : decode cX10_takes 115 = .ok (.iload_n 3, 1) := by decide +kernel
theorem dX10_takes_116 : decode cX10_takes 116 = .ok (.iadd, 1) := by decide +kernel
theorem dX10_takes_117 : decode cX10_takes 117 = .ok (.iaload, 1) := by decide +kernel
theorem dX10_takes_118 : decode cX10_takes 118 = .ok (.iastore, 1) := by decide +kernel
theorem dX10_takes_119 : decode cX10_takes 119 = .ok (.aload_n 0, 1) := by decide +kernel
theorem dX10_takes_120 : decode cX10_takes 120 = .ok (.getfield 35, 3) := by decide +kernel
theorem dX10_takes_123 : decode cX10_takes 123 = .ok (.iload_n 3, 1) := by decide +kernel
theorem dX10_takes_124 : decode cX10_takes 124 = .ok (.aload_n 1, 1) := by decide +kernel
theorem dX10_takes_125 : decode cX10_takes 125 = .ok (.iload_n 2, 1) := by decide +kernel
theorem dX10_takes_126 : decode cX10_takes 126 = .ok (.bipush 70, 2) := by decide +kernel
theorem dX10_takes_128 : decode cX10_takes 128 = .ok (.iadd, 1) := by decide +kernel
theorem dX10_takes_129 : decode cX10_takes 129 = .ok (.iload_n 3, 1) := by decide +kernel
theorem dX10_takes_130 : decode cX10_takes 130 = .ok (.iadd, 1) := by decide +kernel
theorem dX10_takes_131 : decode cX10_takes 131 = .ok (.iaload, 1) := by decide +kernel
theorem dX10_takes_132 : decode cX10_takes 132 = .ok (.iastore, 1) := by decide +kernel
theorem dX10_takes_133 : decode cX10_takes 133 = .ok (.aload_n 0, 1) := by decide +kernel
theorem dX10_takes_134 : decode cX10_takes 134 = .ok (.getfield 38, 3) := by decide +kernel
theorem dX10_takes_137 : decode cX10_takes 137 = .ok (.iload_n 3, 1) := by decide +kernel
theorem dX10_takes_138 : decode cX10_takes 138 = .ok (.aload_n 1, 1) := by decide +kernel
theorem dX10_takes_139 : decode cX10_takes 139 = .ok (.iload_n 2, 1) := by decide +kernel
theorem dX10_takes_140 : decode cX10_takes 140 = .ok (.bipush 86, 2) := by decide +kernel
theorem dX10_takes_142 : decode cX10_takes 142 = .ok (.iadd, 1) := by decide +kernel
theorem dX10_takes_143 : decode cX10_takes 143 = .ok (.iload_n 3, 1) := by decide +kernel
theorem dX10_takes_144 : decode cX10_takes 144 = .ok (.iadd, 1) := by decide +kernel
theorem dX10_takes_145 : decode cX10_takes 145 = .ok (.iaload, 1) := by decide +kernel
theorem dX10_takes_146 : decode cX10_takes 146 = .ok (.iastore, 1) := by decide +kernel
theorem dX10_takes_147 : decode cX10_takes 147 = .ok (.iinc 3 1, 3) := by decide +kernel
theorem dX10_takes_150 : decode cX10_takes 150 = .ok (.goto (-93), 3) := by decide +kernel
theorem dX10_takes_153 : decode cX10_takes 153 = .ok (.return_, 1) := by decide +kernel
theorem dX10_notes_0 : decode cX10_notes 0 = .ok (.aload_n 0, 1) := by decide +kernel
theorem dX10_notes_1 : decode cX10_notes 1 = .ok (.getfield 107, 3) := by decide +kernel
theorem dX10_notes_4 : decode cX10_notes 4 = .ok (.bipush 8, 2) := by decide +kernel
theorem dX10_notes_6 : decode cX10_notes 6 = .ok (.if_icmp .ne 43, 3) := by decide +kernel
theorem dX10_notes_9 : decode cX10_notes 9 = .ok (.iconst 0, 1) := by decide +kernel
theorem dX10_notes_10 : decode cX10_notes 10 = .ok (.istore_n 1, 1) := by decide +kernel
theorem dX10_notes_11 : decode cX10_notes 11 = .ok (.iload_n 1, 1) := by decide +kernel
theorem dX10_notes_12 : decode cX10_notes 12 = .ok (.sipush 714, 3) := by decide +kernel
theorem dX10_notes_15 : decode cX10_notes 15 = .ok (.if_icmp .ge 24, 3) := by decide +kernel
theorem dX10_notes_18 : decode cX10_notes 18 = .ok (.aload_n 0, 1) := by decide +kernel
theorem dX10_notes_19 : decode cX10_notes 19 = .ok (.getfield 41, 3) := by decide +kernel
theorem dX10_notes_22 : decode cX10_notes 22 = .ok (.iload_n 1, 1) := by decide +kernel
theorem dX10_notes_23 : decode cX10_notes 23 = .ok (.aload_n 0, 1) := by decide +kernel
theorem dX10_notes_24 : decode cX10_notes 24 = .ok (.getfield 41, 3) := by decide +kernel
theorem dX10_notes_27 : decode cX10_notes 27 = .ok (.iload_n 1, 1) := by decide +kernel
theorem dX10_notes_28 : decode cX10_notes 28 = .ok (.bipush 102, 2) := by decide +kernel
theorem dX10_notes_30 : decode cX10_notes 30 = .ok (.iadd, 1) := by decide +kernel
theorem dX10_notes_31 : decode cX10_notes 31 = .ok (.iaload, 1) := by decide +kernel
theorem dX10_notes_32 : decode cX10_notes 32 = .ok (.iastore, 1) := by decide +kernel
theorem dX10_notes_33 : decode cX10_notes 33 = .ok (.iinc 1 1, 3) := by decide +kernel
theorem dX10_notes_36 : decode cX10_notes 36 = .ok (.goto (-25), 3) := by decide +kernel
theorem dX10_notes_39 : decode cX10_notes 39 = .ok (.aload_n 0, 1) := by decide +kernel
theorem dX10_notes_40 : decode cX10_notes 40 = .ok (.dup, 1) := by decide +kernel
theorem dX10_notes_41 : decode cX10_notes 41 = .ok (.getfield 107, 3) := by decide +kernel
theorem dX10_notes_44 : decode cX10_notes 44 = .ok (.iconst 1, 1) := by decide +kernel
theorem dX10_notes_45 : decode cX10_notes 45 = .ok (.isub, 1) := by decide +kernel
theorem dX10_notes_46 : decode cX10_notes 46 = .ok (.putfield 107, 3) := by decide +kernel
theorem dX10_notes_49 : decode cX10_notes 49 = .ok (.aload_n 0, 1) := by decide +kernel
theorem dX10_notes_50 : decode cX10_notes 50 = .ok (.aload_n 0, 1) := by decide +kernel
theorem dX10_notes_51 : decode cX10_notes 51 = .ok (.getfield 41, 3) := by decide +kernel
theorem dX10_notes_54 : decode cX10_notes 54 = .ok (.bipush 102, 2) := by decide +kernel
theorem dX10_notes_56 : decode cX10_notes 56 = .ok (.aload_n 0, 1) := by decide +kernel
theorem dX10_notes_57 : decode cX10_notes 57 = .ok (.getfield 107, 3) := by decide +kernel
theorem dX10_notes_60 : decode cX10_notes 60 = .ok (.imul, 1) := by decide +kernel
theorem dX10_notes_61 : decode cX10_notes 61 = .ok (.invokevirtual 110, 3) := by decide +kernel
theorem dX10_notes_64 : decode cX10_notes 64 = .ok (.aload_n 0, 1) := by decide +kernel
theorem dX10_notes_65 : decode cX10_notes 65 = .ok (.dup, 1) := by decide +kernel
theorem dX10_notes_66 : decode cX10_notes 66 = .ok (.getfield 107, 3) := by decide +kernel
theorem dX10_notes_69 : decode cX10_notes 69 = .ok (.iconst 1, 1) := by decide +kernel
theorem dX10_notes_70 : decode cX10_notes 70 = .ok (.iadd, 1) := by decide +kernel
theorem dX10_notes_71 : decode cX10_notes 71 = .ok (.putfield 107, 3) := by decide +kernel
theorem dX10_notes_74 : decode cX10_notes 74 = .ok (.return_, 1) := by decide +kernel
theorem dX10_move_0 : decode cX10_move 0 = .ok (.aload_n 0, 1) := by decide +kernel
theorem dX10_move_1 : decode cX10_move 1 = .ok (.iload_n 1, 1) := by decide +kernel
theorem dX10_move_2 : decode cX10_move 2 = .ok (.iload_n 2, 1) := by decide +kernel
theorem dX10_move_3 : decode cX10_move 3 = .ok (.invokevirtual 92, 3) := by decide +kernel
theorem dX10_move_6 : decode cX10_move 6 = .ok (.ifCond .eq 24, 3) := by decide +kernel
theorem dX10_move_9 : decode cX10_move 9 = .ok (.iload_n 3, 1) := by decide +kernel
theorem dX10_move_10 : decode cX10_move 10 = .ok (.iconst 0, 1) := by decide +kernel
theorem dX10_move_11 : decode cX10_move 11 = .ok (.bipush 60, 2) := by decide +kernel
theorem dX10_move_13 : decode cX10_move 13 = .ok (.invokestatic 84, 3) := by decide +kernel
theorem dX10_move_16 : decode cX10_move 16 = .ok (.ifCond .eq 14, 3) := by decide +kernel
theorem dX10_move_19 : decode cX10_move 19 = .ok (.iload 4, 2) := by decide +kernel
theorem dX10_move_21 : decode cX10_move 21 = .ok (.iconst 0, 1) := by decide +kernel
theorem dX10_move_22 : decode cX10_move 22 = .ok (.bipush 60, 2) := by decide +kernel
theorem dX10_move_24 : decode cX10_move 24 = .ok (.invokestatic 84, 3) := by decide +kernel
theorem dX10_move_27 : decode cX10_move 27 = .ok (.ifCond .ne 5, 3) := by decide +kernel
theorem dX10_move_30 : decode cX10_move 30 = .ok (.iconst (-1), 1) := by decide +kernel
theorem dX10_move_31 : decode cX10_move 31 = .ok (.ireturn, 1) := by decide +kernel
theorem dX10_move_32 : decode cX10_move 32 = .ok (.bipush 8, 2) := by decide +kernel
theorem dX10_move_34 : decode cX10_move 34 = .ok (.iload_n 1, 1) := by decide +kernel
theorem dX10_move_35 : decode cX10_move 35 = .ok (.imul, 1) := by decide +kernel
theorem dX10_move_36 : decode cX10_move 36 = .ok (.iload_n 2, 1) := by decide +kernel
theorem dX10_move_37 : decode cX10_move 37 = .ok (.iadd, 1) := by decide +kernel
theorem dX10_move_38 : decode cX10_move 38 = .ok (.istore 5, 2) := by decide +kernel
theorem dX10_move_40 : decode cX10_move 40 = .ok (.aload_n 0, 1) := by decide +kernel
theorem dX10_move_41 : decode cX10_move 41 = .ok (.getfield 26, 3) := by decide +kernel
theorem dX10_move_44 : decode cX10_move 44 = .ok (.iload 5, 2) := by decide +kernel
theorem dX10_move_46 : decode cX10_move 46 = .ok (.iaload, 1) := by decide +kernel
theorem dX10_move_47 : decode cX10_move 47 = .ok (.iload_n 3, 1) := by decide +kernel
theorem dX10_move_48 : decode cX10_move 48 = .ok (.if_icmp .ne 18, 3) := by decide +kernel
theorem dX10_move_51 : decode cX10_move 51 = .ok (.aload_n 0, 1) := by decide +kernel
theorem dX10_move_52 : decode cX10_move 52 = .ok (.getfield 29, 3) := by decide +kernel
theorem dX10_move_55 : decode cX10_move 55 = .ok (.iload 5, 2) := by decide +kernel
theorem dX10_move_57 : decode cX10_move 57 = .ok (.iaload, 1) := by decide +kernel
theorem dX10_move_58 : decode cX10_move 58 = .ok (.iload 4, 2) := by decide +kernel
theorem dX10_move_60 : decode cX10_move 60 = .ok (.if_icmp .ne 6, 3) := by decide +kernel
theorem dX10_move_63 : decode cX10_move 63 = .ok (.bipush (-2), 2) := by decide +kernel
theorem dX10_move_65 : decode cX10_move 65 = .ok (.ireturn, 1) := by decide +kernel
theorem dX10_move_66 : decode cX10_move 66 = .ok (.aload_n 0, 1) := by decide +kernel
theorem dX10_move_67 : decode cX10_move 67 = .ok (.invokevirtual 114, 3) := by decide +kernel
theorem dX10_move_70 : decode cX10_move 70 = .ok (.aload_n 0, 1) := by decide +kernel
theorem dX10_move_71 : decode cX10_move 71 = .ok (.getfield 26, 3) := by decide +kernel
theorem dX10_move_74 : decode cX10_move 74 = .ok (.iload 5, 2) := by decide +kernel
theorem dX10_move_76 : decode cX10_move 76 = .ok (.iload_n 3, 1) := by decide +kernel
theorem dX10_move_77 : decode cX10_move 77 = .ok (.iastore, 1) := by decide +kernel
theorem dX10_move_78 : decode cX10_move 78 = .ok (.aload_n 0, 1) := by decide +kernel
theorem dX10_move_79 : decode cX10_move 79 = .ok (.getfield 29, 3) := by decide +kernel
theorem dX10_move_82 : decode cX10_move 82 = .ok (.iload 5, 2) := by decide +kernel
theorem dX10_move_84 : decode cX10_move 84 = .ok (.iload 4, 2) := by decide +kernel
theorem dX10_move_86 : decode cX10_move 86 = .ok (.iastore, 1) := by decide +kernel
theorem dX10_move_87 : decode cX10_move 87 = .ok (.iconst 1, 1) := by decide +kernel
theorem dX10_move_88 : decode cX10_move 88 = .ok (.ireturn, 1) := by decide +kernel
theorem dX10_becomes_0 : decode cX10_becomes 0 = .ok (.aload_n 1, 1) := by decide +kernel
theorem dX10_becomes_1 : decode cX10_becomes 1 = .ok (.iload_n 2, 1) := by decide +kernel
theorem dX10_becomes_2 : decode cX10_becomes 2 = .ok (.iaload, 1) := by decide +kernel
theorem dX10_becomes_3 : decode cX10_becomes 3 = .ok (.istore 4, 2) := by decide +kernel
theorem dX10_becomes_5 : decode cX10_becomes 5 = .ok (.iload 4, 2) := by decide +kernel
theorem dX10_becomes_7 : decode cX10_becomes 7 = .ok (.iload_n 3, 1) := by decide +kernel
theorem dX10_becomes_8 : decode cX10_becomes 8 = .ok (.if_icmp .ne 6, 3) := by decide +kernel
theorem dX10_becomes_11 : decode cX10_becomes 11 = .ok (.bipush (-2), 2) := by decide +kernel
theorem dX10_becomes_13 : decode cX10_becomes 13 = .ok (.ireturn, 1) := by decide +kernel
theorem dX10_becomes_14 : decode cX10_becomes 14 = .ok (.aload_n 0, 1) := by decide +kernel
theorem dX10_becomes_15 : decode cX10_becomes 15 = .ok (.invokevirtual 114, 3) := by decide +kernel
theorem dX10_becomes_18 : decode cX10_becomes 18 = .ok (.aload_n 1, 1) := by decide +kernel
theorem dX10_becomes_19 : decode cX10_becomes 19 = .ok (.iload_n 2, 1) := by decide +kernel
theorem dX10_becomes_20 : decode cX10_becomes 20 = .ok (.iload_n 3, 1) := by decide +kernel
theorem dX10_becomes_21 : decode cX10_becomes 21 = .ok (.iastore, 1) := by decide +kernel
theorem dX10_becomes_22 : decode cX10_becomes 22 = .ok (.iload 4, 2) := by decide +kernel
theorem dX10_becomes_24 : decode cX10_becomes 24 = .ok (.ireturn, 1) := by decide +kernel
theorem dX10_rename_0 : decode cX10_rename 0 = .ok (.aload_n 0, 1) := by decide +kernel
theorem dX10_rename_1 : decode cX10_rename 1 = .ok (.iload_n 1, 1) := by decide +kernel
theorem dX10_rename_2 : decode cX10_rename 2 = .ok (.iload_n 2, 1) := by decide +kernel
theorem dX10_rename_3 : decode cX10_rename 3 = .ok (.invokevirtual 92, 3) := by decide +kernel
theorem dX10_rename_6 : decode cX10_rename 6 = .ok (.ifCond .eq 30, 3) := by decide +kernel
theorem dX10_rename_9 : decode cX10_rename 9 = .ok (.iload_n 3, 1) := by decide +kernel
theorem dX10_rename_10 : decode cX10_rename 10 = .ok (.iconst 0, 1) := by decide +kernel
theorem dX10_rename_11 : decode cX10_rename 11 = .ok (.iconst 3, 1) := by decide +kernel
theorem dX10_rename_12 : decode cX10_rename 12 = .ok (.invokestatic 84, 3) := by decide +kernel
theorem dX10_rename_15 : decode cX10_rename 15 = .ok (.ifCond .eq 21, 3) := by decide +kernel
theorem dX10_rename_18 : decode cX10_rename 18 = .ok (.aload_n 0, 1) := by decide +kernel
theorem dX10_rename_19 : decode cX10_rename 19 = .ok (.aload_n 0, 1) := by decide +kernel
theorem dX10_rename_20 : decode cX10_rename 20 = .ok (.getfield 23, 3) := by decide +kernel
theorem dX10_rename_23 : decode cX10_rename 23 = .ok (.bipush 8, 2) := by decide +kernel
theorem dX10_rename_25 : decode cX10_rename 25 = .ok (.iload_n 1, 1) := by decide +kernel
theorem dX10_rename_26 : decode cX10_rename 26 = .ok (.imul, 1) := by decide +kernel
theorem dX10_rename_27 : decode cX10_rename 27 = .ok (.iload_n 2, 1) := by decide +kernel
theorem dX10_rename_28 : decode cX10_rename 28 = .ok (.iadd, 1) := by decide +kernel
theorem dX10_rename_29 : decode cX10_rename 29 = .ok (.iload_n 3, 1) := by decide +kernel
theorem dX10_rename_30 : decode cX10_rename 30 = .ok (.invokevirtual 117, 3) := by decide +kernel
theorem dX10_rename_33 : decode cX10_rename 33 = .ok (.goto 4, 3) := by decide +kernel
theorem dX10_rename_36 : decode cX10_rename 36 = .ok (.iconst (-1), 1) := by decide +kernel
theorem dX10_rename_37 : decode cX10_rename 37 = .ok (.ireturn, 1) := by decide +kernel
theorem dX10_name_0 : decode cX10_name 0 = .ok (.aload_n 0, 1) := by decide +kernel
theorem dX10_name_1 : decode cX10_name 1 = .ok (.iload_n 1, 1) := by decide +kernel
theorem dX10_name_2 : decode cX10_name 2 = .ok (.iload_n 2, 1) := by decide +kernel
theorem dX10_name_3 : decode cX10_name 3 = .ok (.invokevirtual 104, 3) := by decide +kernel
theorem dX10_name_6 : decode cX10_name 6 = .ok (.ifCond .eq 31, 3) := by decide +kernel
theorem dX10_name_9 : decode cX10_name 9 = .ok (.iload_n 3, 1) := by decide +kernel
theorem dX10_name_10 : decode cX10_name 10 = .ok (.iconst 0, 1) := by decide +kernel
theorem dX10_name_11 : decode cX10_name 11 = .ok (.bipush 9, 2) := by decide +kernel
theorem dX10_name_13 : decode cX10_name 13 = .ok (.invokestatic 84, 3) := by decide +kernel
theorem dX10_name_16 : decode cX10_name 16 = .ok (.ifCond .eq 21, 3) := by decide +kernel
theorem dX10_name_19 : decode cX10_name 19 = .ok (.aload_n 0, 1) := by decide +kernel
theorem dX10_name_20 : decode cX10_name 20 = .ok (.aload_n 0, 1) := by decide +kernel
theorem dX10_name_21 : decode cX10_name 21 = .ok (.getfield 38, 3) := by decide +kernel
theorem dX10_name_24 : decode cX10_name 24 = .ok (.bipush 8, 2) := by decide +kernel
theorem dX10_name_26 : decode cX10_name 26 = .ok (.iload_n 1, 1) := by decide +kernel
theorem dX10_name_27 : decode cX10_name 27 = .ok (.imul, 1) := by decide +kernel
theorem dX10_name_28 : decode cX10_name 28 = .ok (.iload_n 2, 1) := by decide +kernel
theorem dX10_name_29 : decode cX10_name 29 = .ok (.iadd, 1) := by decide +kernel
theorem dX10_name_30 : decode cX10_name 30 = .ok (.iload_n 3, 1) := by decide +kernel
theorem dX10_name_31 : decode cX10_name 31 = .ok (.invokevirtual 117, 3) := by decide +kernel
theorem dX10_name_34 : decode cX10_name 34 = .ok (.goto 4, 3) := by decide +kernel
theorem dX10_name_37 : decode cX10_name 37 = .ok (.iconst (-1), 1) := by decide +kernel
theorem dX10_name_38 : decode cX10_name 38 = .ok (.ireturn, 1) := by decide +kernel
theorem dX10_join_0 : decode cX10_join 0 = .ok (.aload_n 0, 1) := by decide +kernel
theorem dX10_join_1 : decode cX10_join 1 = .ok (.iload_n 1, 1) := by decide +kernel
theorem dX10_join_2 : decode cX10_join 2 = .ok (.iload_n 2, 1) := by decide +kernel
theorem dX10_join_3 : decode cX10_join 3 = .ok (.invokevirtual 92, 3) := by decide +kernel
theorem dX10_join_6 : decode cX10_join 6 = .ok (.ifCond .eq 28, 3) := by decide +kernel
theorem dX10_join_9 : decode cX10_join 9 = .ok (.aload_n 0, 1) := by decide +kernel
theorem dX10_join_10 : decode cX10_join 10 = .ok (.iload_n 1, 1) := by decide +kernel
theorem dX10_join_11 : decode cX10_join 11 = .ok (.iload_n 3, 1) := by decide +kernel
theorem dX10_join_12 : decode cX10_join 12 = .ok (.invokevirtual 92, 3) := by decide +kernel
theorem dX10_join_15 : decode cX10_join 15 = .ok (.ifCond .eq 19, 3) := by decide +kernel
theorem dX10_join_18 : decode cX10_join 18 = .ok (.iload_n 2, 1) := by decide +kernel
theorem dX10_join_19 : decode cX10_join 19 = .ok (.iload_n 3, 1) := by decide +kernel
theorem dX10_join_20 : decode cX10_join 20 = .ok (.if_icmp .eq 14, 3) := by decide +kernel
theorem dX10_join_23 : decode cX10_join 23 = .ok (.iload 4, 2) := by decide +kernel
theorem dX10_join_25 : decode cX10_join 25 = .ok (.iconst 0, 1) := by decide +kernel
theorem dX10_join_26 : decode cX10_join 26 = .ok (.bipush 9, 2) := by decide +kernel
theorem dX10_join_28 : decode cX10_join 28 = .ok (.invokestatic 84, 3) := by decide +kernel
theorem dX10_join_31 : decode cX10_join 31 = .ok (.ifCond .ne 5, 3) := by decide +kernel
theorem dX10_join_34 : decode cX10_join 34 = .ok (.iconst (-1), 1) := by decide +kernel
theorem dX10_join_35 : decode cX10_join 35 = .ok (.ireturn, 1) := by decide +kernel
theorem dX10_join_36 : decode cX10_join 36 = .ok (.aload_n 0, 1) := by decide +kernel
theorem dX10_join_37 : decode cX10_join 37 = .ok (.iload_n 1, 1) := by decide +kernel
theorem dX10_join_38 : decode cX10_join 38 = .ok (.iload_n 2, 1) := by decide +kernel
theorem dX10_join_39 : decode cX10_join 39 = .ok (.iload_n 3, 1) := by decide +kernel
theorem dX10_join_40 : decode cX10_join 40 = .ok (.invokevirtual 121, 3) := by decide +kernel
theorem dX10_join_43 : decode cX10_join 43 = .ok (.bipush (-4), 2) := by decide +kernel
theorem dX10_join_45 : decode cX10_join 45 = .ok (.if_icmp .eq 6, 3) := by decide +kernel
theorem dX10_join_48 : decode cX10_join 48 = .ok (.bipush (-2), 2) := by decide +kernel
theorem dX10_join_50 : decode cX10_join 50 = .ok (.ireturn, 1) := by decide +kernel
theorem dX10_join_51 : decode cX10_join 51 = .ok (.aload_n 0, 1) := by decide +kernel
theorem dX10_join_52 : decode cX10_join 52 = .ok (.getfield 20, 3) := by decide +kernel
theorem dX10_join_55 : decode cX10_join 55 = .ok (.iload_n 1, 1) := by decide +kernel
theorem dX10_join_56 : decode cX10_join 56 = .ok (.iaload, 1) := by decide +kernel
theorem dX10_join_57 : decode cX10_join 57 = .ok (.bipush 8, 2) := by decide +kernel
theorem dX10_join_59 : decode cX10_join 59 = .ok (.if_icmp .ne 6, 3) := by decide +kernel
theorem dX10_join_62 : decode cX10_join 62 = .ok (.bipush (-3), 2) := by decide +kernel
theorem dX10_join_64 : decode cX10_join 64 = .ok (.ireturn, 1) := by decide +kernel
theorem dX10_join_65 : decode cX10_join 65 = .ok (.aload_n 0, 1) := by decide +kernel
theorem dX10_join_66 : decode cX10_join 66 = .ok (.invokevirtual 114, 3) := by decide +kernel
theorem dX10_join_69 : decode cX10_join 69 = .ok (.aload_n 0, 1) := by decide +kernel
theorem dX10_join_70 : decode cX10_join 70 = .ok (.iload_n 1, 1) := by decide +kernel
theorem dX10_join_71 : decode cX10_join 71 = .ok (.iload_n 2, 1) := by decide +kernel
theorem dX10_join_72 : decode cX10_join 72 = .ok (.iload_n 3, 1) := by decide +kernel
theorem dX10_join_73 : decode cX10_join 73 = .ok (.iload 4, 2) := by decide +kernel
theorem dX10_join_75 : decode cX10_join 75 = .ok (.invokevirtual 78, 3) := by decide +kernel
theorem dX10_join_78 : decode cX10_join 78 = .ok (.aload_n 0, 1) := by decide +kernel
theorem dX10_join_79 : decode cX10_join 79 = .ok (.getfield 20, 3) := by decide +kernel
theorem dX10_join_82 : decode cX10_join 82 = .ok (.iload_n 1, 1) := by decide +kernel
theorem dX10_join_83 : decode cX10_join 83 = .ok (.iaload, 1) := by decide +kernel
theorem dX10_join_84 : decode cX10_join 84 = .ok (.ireturn, 1) := by decide +kernel
theorem dX10_cut_0 : decode cX10_cut 0 = .ok (.aload_n 0, 1) := by decide +kernel
theorem dX10_cut_1 : decode cX10_cut 1 = .ok (.iload_n 1, 1) := by decide +kernel
theorem dX10_cut_2 : decode cX10_cut 2 = .ok (.iload_n 2, 1) := by decide +kernel
theorem dX10_cut_3 : decode cX10_cut 3 = .ok (.invokevirtual 104, 3) := by decide +kernel
theorem dX10_cut_6 : decode cX10_cut 6 = .ok (.ifCond .ne 5, 3) := by decide +kernel
theorem dX10_cut_9 : decode cX10_cut 9 = .ok (.iconst (-1), 1) := by decide +kernel
theorem dX10_cut_10 : decode cX10_cut 10 = .ok (.ireturn, 1) := by decide +kernel
theorem dX10_cut_11 : decode cX10_cut 11 = .ok (.aload_n 0, 1) := by decide +kernel
theorem dX10_cut_12 : decode cX10_cut 12 = .ok (.invokevirtual 114, 3) := by decide +kernel
theorem dX10_cut_15 : decode cX10_cut 15 = .ok (.aload_n 0, 1) := by decide +kernel
theorem dX10_cut_16 : decode cX10_cut 16 = .ok (.getfield 20, 3) := by decide +kernel
theorem dX10_cut_19 : decode cX10_cut 19 = .ok (.iload_n 1, 1) := by decide +kernel
theorem dX10_cut_20 : decode cX10_cut 20 = .ok (.dup2, 1) := by decide +kernel
theorem dX10_cut_21 : decode cX10_cut 21 = .ok (.iaload, 1) := by decide +kernel
theorem dX10_cut_22 : decode cX10_cut 22 = .ok (.iconst 1, 1) := by decide +kernel
theorem dX10_cut_23 : decode cX10_cut 23 = .ok (.isub, 1) := by decide +kernel
theorem dX10_cut_24 : decode cX10_cut 24 = .ok (.iastore, 1) := by decide +kernel
theorem dX10_cut_25 : decode cX10_cut 25 = .ok (.iload_n 2, 1) := by decide +kernel
theorem dX10_cut_26 : decode cX10_cut 26 = .ok (.istore_n 3, 1) := by decide +kernel
theorem dX10_cut_27 : decode cX10_cut 27 = .ok (.iload_n 3, 1) := by decide +kernel
theorem dX10_cut_28 : decode cX10_cut 28 = .ok (.aload_n 0, 1) := by decide +kernel
theorem dX10_cut_29 : decode cX10_cut 29 = .ok (.getfield 20, 3) := by decide +kernel
theorem dX10_cut_32 : decode cX10_cut 32 = .ok (.iload_n 1, 1) := by decide +kernel
theorem dX10_cut_33 : decode cX10_cut 33 = .ok (.iaload, 1) := by decide +kernel
theorem dX10_cut_34 : decode cX10_cut 34 = .ok (.if_icmp .ge 65, 3) := by decide +kernel
theorem dX10_cut_37 : decode cX10_cut 37 = .ok (.bipush 8, 2) := by decide +kernel
theorem dX10_cut_39 : decode cX10_cut 39 = .ok (.iload_n 1, 1) := by decide +kernel
theorem dX10_cut_40 : decode cX10_cut 40 = .ok (.imul, 1) := by decide +kernel
theorem dX10_cut_41 : decode cX10_cut 41 = .ok (.iload_n 3, 1) := by decide +kernel
theorem dX10_cut_42 : decode cX10_cut 42 = .ok (.iadd, 1) := by decide +kernel
theorem dX10_cut_43 : decode cX10_cut 43 = .ok (.istore 4, 2) := by decide +kernel
theorem dX10_cut_45 : decode cX10_cut 45 = .ok (.aload_n 0, 1) := by decide +kernel
theorem dX10_cut_46 : decode cX10_cut 46 = .ok (.getfield 32, 3) := by decide +kernel
theorem dX10_cut_49 : decode cX10_cut 49 = .ok (.iload 4, 2) := by decide +kernel
theorem dX10_cut_51 : decode cX10_cut 51 = .ok (.aload_n 0, 1) := by decide +kernel
theorem dX10_cut_52 : decode cX10_cut 52 = .ok (.getfield 32, 3) := by decide +kernel
theorem dX10_cut_55 : decode cX10_cut 55 = .ok (.iload 4, 2) := by decide +kernel
theorem dX10_cut_57 : decode cX10_cut 57 = .ok (.iconst 1, 1) := by decide +kernel
theorem dX10_cut_58 : decode cX10_cut 58 = .ok (.iadd, 1) := by decide +kernel
theorem dX10_cut_59 : decode cX10_cut 59 = .ok (.iaload, 1) := by decide +kernel
theorem dX10_cut_60 : decode cX10_cut 60 = .ok (.iastore, 1) := by decide +kernel
theorem dX10_cut_61 : decode cX10_cut 61 = .ok (.aload_n 0, 1) := by decide +kernel
theorem dX10_cut_62 : decode cX10_cut 62 = .ok (.getfield 35, 3) := by decide +kernel
theorem dX10_cut_65 : decode cX10_cut 65 = .ok (.iload 4, 2) := by decide +kernel
theorem dX10_cut_67 : decode cX10_cut 67 = .ok (.aload_n 0, 1) := by decide +kernel
theorem dX10_cut_68 : decode cX10_cut 68 = .ok (.getfield 35, 3) := by decide +kernel
theorem dX10_cut_71 : decode cX10_cut 71 = .ok (.iload 4, 2) := by decide +kernel
theorem dX10_cut_73 : decode cX10_cut 73 = .ok (.iconst 1, 1) := by decide +kernel
theorem dX10_cut_74 : decode cX10_cut 74 = .ok (.iadd, 1) := by decide +kernel
theorem dX10_cut_75 : decode cX10_cut 75 = .ok (.iaload, 1) := by decide +kernel
theorem dX10_cut_76 : decode cX10_cut 76 = .ok (.iastore, 1) := by decide +kernel
theorem dX10_cut_77 : decode cX10_cut 77 = .ok (.aload_n 0, 1) := by decide +kernel
theorem dX10_cut_78 : decode cX10_cut 78 = .ok (.getfield 38, 3) := by decide +kernel
theorem dX10_cut_81 : decode cX10_cut 81 = .ok (.iload 4, 2) := by decide +kernel
theorem dX10_cut_83 : decode cX10_cut 83 = .ok (.aload_n 0, 1) := by decide +kernel
theorem dX10_cut_84 : decode cX10_cut 84 = .ok (.getfield 38, 3) := by decide +kernel
theorem dX10_cut_87 : decode cX10_cut 87 = .ok (.iload 4, 2) := by decide +kernel
theorem dX10_cut_89 : decode cX10_cut 89 = .ok (.iconst 1, 1) := by decide +kernel
theorem dX10_cut_90 : decode cX10_cut 90 = .ok (.iadd, 1) := by decide +kernel
theorem dX10_cut_91 : decode cX10_cut 91 = .ok (.iaload, 1) := by decide +kernel
theorem dX10_cut_92 : decode cX10_cut 92 = .ok (.iastore, 1) := by decide +kernel
theorem dX10_cut_93 : decode cX10_cut 93 = .ok (.iinc 3 1, 3) := by decide +kernel
theorem dX10_cut_96 : decode cX10_cut 96 = .ok (.goto (-69), 3) := by decide +kernel
theorem dX10_cut_99 : decode cX10_cut 99 = .ok (.aload_n 0, 1) := by decide +kernel
theorem dX10_cut_100 : decode cX10_cut 100 = .ok (.getfield 20, 3) := by decide +kernel
theorem dX10_cut_103 : decode cX10_cut 103 = .ok (.iload_n 1, 1) := by decide +kernel
theorem dX10_cut_104 : decode cX10_cut 104 = .ok (.iaload, 1) := by decide +kernel
theorem dX10_cut_105 : decode cX10_cut 105 = .ok (.ireturn, 1) := by decide +kernel
theorem dX10_tune_0 : decode cX10_tune 0 = .ok (.iload_n 1, 1) := by decide +kernel
theorem dX10_tune_1 : decode cX10_tune 1 = .ok (.iconst 0, 1) := by decide +kernel
theorem dX10_tune_2 : decode cX10_tune 2 = .ok (.iconst 1, 1) := by decide +kernel
theorem dX10_tune_3 : decode cX10_tune 3 = .ok (.invokestatic 84, 3) := by decide +kernel
theorem dX10_tune_6 : decode cX10_tune 6 = .ok (.ifCond .eq 29, 3) := by decide +kernel
theorem dX10_tune_9 : decode cX10_tune 9 = .ok (.iload_n 1, 1) := by decide +kernel
theorem dX10_tune_10 : decode cX10_tune 10 = .ok (.ifCond .ne 16, 3) := by decide +kernel
theorem dX10_tune_13 : decode cX10_tune 13 = .ok (.iload_n 2, 1) := by decide +kernel
theorem dX10_tune_14 : decode cX10_tune 14 = .ok (.iconst 1, 1) := by decide +kernel
theorem dX10_tune_15 : decode cX10_tune 15 = .ok (.bipush 20, 2) := by decide +kernel
theorem dX10_tune_17 : decode cX10_tune 17 = .ok (.invokestatic 84, 3) := by decide +kernel
theorem dX10_tune_20 : decode cX10_tune 20 = .ok (.ifCond .eq 15, 3) := by decide +kernel
theorem dX10_tune_23 : decode cX10_tune 23 = .ok (.goto 14, 3) := by decide +kernel
theorem dX10_tune_26 : decode cX10_tune 26 = .ok (.iload_n 2, 1) := by decide +kernel
theorem dX10_tune_27 : decode cX10_tune 27 = .ok (.iconst 0, 1) := by decide +kernel
theorem dX10_tune_28 : decode cX10_tune 28 = .ok (.iconst 3, 1) := by decide +kernel
theorem dX10_tune_29 : decode cX10_tune 29 = .ok (.invokestatic 84, 3) := by decide +kernel
theorem dX10_tune_32 : decode cX10_tune 32 = .ok (.ifCond .ne 5, 3) := by decide +kernel
theorem dX10_tune_35 : decode cX10_tune 35 = .ok (.iconst (-1), 1) := by decide +kernel
theorem dX10_tune_36 : decode cX10_tune 36 = .ok (.ireturn, 1) := by decide +kernel
theorem dX10_tune_37 : decode cX10_tune 37 = .ok (.iload_n 1, 1) := by decide +kernel
theorem dX10_tune_38 : decode cX10_tune 38 = .ok (.ifCond .ne 10, 3) := by decide +kernel
theorem dX10_tune_41 : decode cX10_tune 41 = .ok (.aload_n 0, 1) := by decide +kernel
theorem dX10_tune_42 : decode cX10_tune 42 = .ok (.getfield 7, 3) := by decide +kernel
theorem dX10_tune_45 : decode cX10_tune 45 = .ok (.goto 7, 3) := by decide +kernel
theorem dX10_tune_48 : decode cX10_tune 48 = .ok (.aload_n 0, 1) := by decide +kernel
theorem dX10_tune_49 : decode cX10_tune 49 = .ok (.getfield 13, 3) := by decide +kernel
theorem dX10_tune_52 : decode cX10_tune 52 = .ok (.istore_n 3, 1) := by decide +kernel
theorem dX10_tune_53 : decode cX10_tune 53 = .ok (.iload_n 3, 1) := by decide +kernel
theorem dX10_tune_54 : decode cX10_tune 54 = .ok (.iload_n 2, 1) := by decide +kernel
theorem dX10_tune_55 : decode cX10_tune 55 = .ok (.if_icmp .ne 6, 3) := by decide +kernel
theorem dX10_tune_58 : decode cX10_tune 58 = .ok (.bipush (-2), 2) := by decide +kernel
theorem dX10_tune_60 : decode cX10_tune 60 = .ok (.ireturn, 1) := by decide +kernel
theorem dX10_tune_61 : decode cX10_tune 61 = .ok (.aload_n 0, 1) := by decide +kernel
theorem dX10_tune_62 : decode cX10_tune 62 = .ok (.invokevirtual 114, 3) := by decide +kernel
theorem dX10_tune_65 : decode cX10_tune 65 = .ok (.aload_n 0, 1) := by decide +kernel
theorem dX10_tune_66 : decode cX10_tune 66 = .ok (.iload_n 1, 1) := by decide +kernel
theorem dX10_tune_67 : decode cX10_tune 67 = .ok (.ifCond .ne 7, 3) := by decide +kernel
theorem dX10_tune_70 : decode cX10_tune 70 = .ok (.iload_n 2, 1) := by decide +kernel
theorem dX10_tune_71 : decode cX10_tune 71 = .ok (.goto 7, 3) := by decide +kernel
theorem dX10_tune_74 : decode cX10_tune 74 = .ok (.aload_n 0, 1) := by decide +kernel
theorem dX10_tune_75 : decode cX10_tune 75 = .ok (.getfield 7, 3) := by decide +kernel
theorem dX10_tune_78 : decode cX10_tune 78 = .ok (.putfield 7, 3) := by decide +kernel
theorem dX10_tune_81 : decode cX10_tune 81 = .ok (.aload_n 0, 1) := by decide +kernel
theorem dX10_tune_82 : decode cX10_tune 82 = .ok (.iload_n 1, 1) := by decide +kernel
theorem dX10_tune_83 : decode cX10_tune 83 = .ok (.iconst 1, 1) := by decide +kernel
theorem dX10_tune_84 : decode cX10_tune 84 = .ok (.if_icmp .ne 7, 3) := by decide +kernel
theorem dX10_tune_87 : decode cX10_tune 87 = .ok (.iload_n 2, 1) := by decide +kernel
theorem dX10_tune_88 : decode cX10_tune 88 = .ok (.goto 7, 3) := by decide +kernel
theorem dX10_tune_91 : decode cX10_tune 91 = .ok (.aload_n 0, 1) := by decide +kernel
theorem dX10_tune_92 : decode cX10_tune 92 = .ok (.getfield 13, 3) := by decide +kernel
theorem dX10_tune_95 : decode cX10_tune 95 = .ok (.putfield 13, 3) := by decide +kernel
theorem dX10_tune_98 : decode cX10_tune 98 = .ok (.iload_n 3, 1) := by decide +kernel
theorem dX10_tune_99 : decode cX10_tune 99 = .ok (.ireturn, 1) := by decide +kernel
theorem dX10_undo_0 : decode cX10_undo 0 = .ok (.aload_n 0, 1) := by decide +kernel
theorem dX10_undo_1 : decode cX10_undo 1 = .ok (.getfield 107, 3) := by decide +kernel
theorem dX10_undo_4 : decode cX10_undo 4 = .ok (.ifCond .ne 6, 3) := by decide +kernel
theorem dX10_undo_7 : decode cX10_undo 7 = .ok (.bipush (-2), 2) := by decide +kernel
theorem dX10_undo_9 : decode cX10_undo 9 = .ok (.ireturn, 1) := by decide +kernel
theorem dX10_undo_10 : decode cX10_undo 10 = .ok (.aload_n 0, 1) := by decide +kernel
theorem dX10_undo_11 : decode cX10_undo 11 = .ok (.dup, 1) := by decide +kernel
theorem dX10_undo_12 : decode cX10_undo 12 = .ok (.getfield 107, 3) := by decide +kernel
theorem dX10_undo_15 : decode cX10_undo 15 = .ok (.iconst 1, 1) := by decide +kernel
theorem dX10_undo_16 : decode cX10_undo 16 = .ok (.isub, 1) := by decide +kernel
theorem dX10_undo_17 : decode cX10_undo 17 = .ok (.putfield 107, 3) := by decide +kernel
theorem dX10_undo_20 : decode cX10_undo 20 = .ok (.aload_n 0, 1) := by decide +kernel
theorem dX10_undo_21 : decode cX10_undo 21 = .ok (.aload_n 0, 1) := by decide +kernel
theorem dX10_undo_22 : decode cX10_undo 22 = .ok (.getfield 41, 3) := by decide +kernel
theorem dX10_undo_25 : decode cX10_undo 25 = .ok (.bipush 102, 2) := by decide +kernel
theorem dX10_undo_27 : decode cX10_undo 27 = .ok (.aload_n 0, 1) := by decide +kernel
theorem dX10_undo_28 : decode cX10_undo 28 = .ok (.getfield 107, 3) := by decide +kernel
theorem dX10_undo_31 : decode cX10_undo 31 = .ok (.imul, 1) := by decide +kernel
theorem dX10_undo_32 : decode cX10_undo 32 = .ok (.invokevirtual 125, 3) := by decide +kernel
theorem dX10_undo_35 : decode cX10_undo 35 = .ok (.aload_n 0, 1) := by decide +kernel
theorem dX10_undo_36 : decode cX10_undo 36 = .ok (.getfield 107, 3) := by decide +kernel
theorem dX10_undo_39 : decode cX10_undo 39 = .ok (.ireturn, 1) := by decide +kernel
theorem dX10_keep_0 : decode cX10_keep 0 = .ok (.aload_n 0, 1) := by decide +kernel
theorem dX10_keep_1 : decode cX10_keep 1 = .ok (.getfield 128, 3) := by decide +kernel
theorem dX10_keep_4 : decode cX10_keep 4 = .ok (.iconst 2, 1) := by decide +kernel
theorem dX10_keep_5 : decode cX10_keep 5 = .ok (.if_icmp .ne 6, 3) := by decide +kernel
theorem dX10_keep_8 : decode cX10_keep 8 = .ok (.bipush (-3), 2) := by decide +kernel
theorem dX10_keep_10 : decode cX10_keep 10 = .ok (.ireturn, 1) := by decide +kernel
theorem dX10_keep_11 : decode cX10_keep 11 = .ok (.aload_n 0, 1) := by decide +kernel
theorem dX10_keep_12 : decode cX10_keep 12 = .ok (.aload_n 0, 1) := by decide +kernel
theorem dX10_keep_13 : decode cX10_keep 13 = .ok (.getfield 44, 3) := by decide +kernel
theorem dX10_keep_16 : decode cX10_keep 16 = .ok (.bipush 102, 2) := by decide +kernel
theorem dX10_keep_18 : decode cX10_keep 18 = .ok (.aload_n 0, 1) := by decide +kernel
theorem dX10_keep_19 : decode cX10_keep 19 = .ok (.getfield 128, 3) := by decide +kernel
theorem dX10_keep_22 : decode cX10_keep 22 = .ok (.imul, 1) := by decide +kernel
theorem dX10_keep_23 : decode cX10_keep 23 = .ok (.invokevirtual 110, 3) := by decide +kernel
theorem dX10_keep_26 : decode cX10_keep 26 = .ok (.aload_n 0, 1) := by decide +kernel
theorem dX10_keep_27 : decode cX10_keep 27 = .ok (.dup, 1) := by decide +kernel
theorem dX10_keep_28 : decode cX10_keep 28 = .ok (.getfield 128, 3) := by decide +kernel
theorem dX10_keep_31 : decode cX10_keep 31 = .ok (.iconst 1, 1) := by decide +kernel
theorem dX10_keep_32 : decode cX10_keep 32 = .ok (.iadd, 1) := by decide +kernel
theorem dX10_keep_33 : decode cX10_keep 33 = .ok (.putfield 128, 3) := by decide +kernel
theorem dX10_keep_36 : decode cX10_keep 36 = .ok (.aload_n 0, 1) := by decide +kernel
theorem dX10_keep_37 : decode cX10_keep 37 = .ok (.getfield 128, 3) := by decide +kernel
theorem dX10_keep_40 : decode cX10_keep 40 = .ok (.ireturn, 1) := by decide +kernel
theorem dX10_back_0 : decode cX10_back 0 = .ok (.aload_n 0, 1) := by decide +kernel
theorem dX10_back_1 : decode cX10_back 1 = .ok (.getfield 128, 3) := by decide +kernel
theorem dX10_back_4 : decode cX10_back 4 = .ok (.ifCond .ne 6, 3) := by decide +kernel
theorem dX10_back_7 : decode cX10_back 7 = .ok (.bipush (-2), 2) := by decide +kernel
theorem dX10_back_9 : decode cX10_back 9 = .ok (.ireturn, 1) := by decide +kernel
theorem dX10_back_10 : decode cX10_back 10 = .ok (.aload_n 0, 1) := by decide +kernel
theorem dX10_back_11 : decode cX10_back 11 = .ok (.dup, 1) := by decide +kernel
theorem dX10_back_12 : decode cX10_back 12 = .ok (.getfield 128, 3) := by decide +kernel
theorem dX10_back_15 : decode cX10_back 15 = .ok (.iconst 1, 1) := by decide +kernel
theorem dX10_back_16 : decode cX10_back 16 = .ok (.isub, 1) := by decide +kernel
theorem dX10_back_17 : decode cX10_back 17 = .ok (.putfield 128, 3) := by decide +kernel
theorem dX10_back_20 : decode cX10_back 20 = .ok (.aload_n 0, 1) := by decide +kernel
theorem dX10_back_21 : decode cX10_back 21 = .ok (.aload_n 0, 1) := by decide +kernel
theorem dX10_back_22 : decode cX10_back 22 = .ok (.getfield 44, 3) := by decide +kernel
theorem dX10_back_25 : decode cX10_back 25 = .ok (.bipush 102, 2) := by decide +kernel
theorem dX10_back_27 : decode cX10_back 27 = .ok (.aload_n 0, 1) := by decide +kernel
theorem dX10_back_28 : decode cX10_back 28 = .ok (.getfield 128, 3) := by decide +kernel
theorem dX10_back_31 : decode cX10_back 31 = .ok (.imul, 1) := by decide +kernel
theorem dX10_back_32 : decode cX10_back 32 = .ok (.invokevirtual 125, 3) := by decide +kernel
theorem dX10_back_35 : decode cX10_back 35 = .ok (.aload_n 0, 1) := by decide +kernel
theorem dX10_back_36 : decode cX10_back 36 = .ok (.iconst 0, 1) := by decide +kernel
theorem dX10_back_37 : decode cX10_back 37 = .ok (.putfield 107, 3) := by decide +kernel
theorem dX10_back_40 : decode cX10_back 40 = .ok (.aload_n 0, 1) := by decide +kernel
theorem dX10_back_41 : decode cX10_back 41 = .ok (.getfield 128, 3) := by decide +kernel
theorem dX10_back_44 : decode cX10_back 44 = .ok (.ireturn, 1) := by decide +kernel
theorem dX10_square_0 : decode cX10_square 0 = .ok (.iload_n 0, 1) := by decide +kernel
theorem dX10_square_1 : decode cX10_square 1 = .ok (.iload_n 0, 1) := by decide +kernel
theorem dX10_square_2 : decode cX10_square 2 = .ok (.imul, 1) := by decide +kernel
theorem dX10_square_3 : decode cX10_square 3 = .ok (.ireturn, 1) := by decide +kernel
theorem dX10_distance_0 : decode cX10_distance 0 = .ok (.aload_n 0, 1) := by decide +kernel
theorem dX10_distance_1 : decode cX10_distance 1 = .ok (.getfield 26, 3) := by decide +kernel
theorem dX10_distance_4 : decode cX10_distance 4 = .ok (.iload_n 1, 1) := by decide +kernel
theorem dX10_distance_5 : decode cX10_distance 5 = .ok (.iaload, 1) := by decide +kernel
theorem dX10_distance_6 : decode cX10_distance 6 = .ok (.aload_n 0, 1) := by decide +kernel
theorem dX10_distance_7 : decode cX10_distance 7 = .ok (.getfield 26, 3) := by decide +kernel
theorem dX10_distance_10 : decode cX10_distance 10 = .ok (.iload_n 2, 1) := by decide +kernel
theorem dX10_distance_11 : decode cX10_distance 11 = .ok (.iaload, 1) := by decide +kernel
theorem dX10_distance_12 : decode cX10_distance 12 = .ok (.isub, 1) := by decide +kernel
theorem dX10_distance_13 : decode cX10_distance 13 = .ok (.invokestatic 131, 3) := by decide +kernel
theorem dX10_distance_16 : decode cX10_distance 16 = .ok (.aload_n 0, 1) := by decide +kernel
theorem dX10_distance_17 : decode cX10_distance 17 = .ok (.getfield 29, 3) := by decide +kernel
theorem dX10_distance_20 : decode cX10_distance 20 = .ok (.iload_n 1, 1) := by decide +kernel
theorem dX10_distance_21 : decode cX10_distance 21 = .ok (.iaload, 1) := by decide +kernel
theorem dX10_distance_22 : decode cX10_distance 22 = .ok (.aload_n 0, 1) := by decide +kernel
theorem dX10_distance_23 : decode cX10_distance 23 = .ok (.getfield 29, 3) := by decide +kernel
theorem dX10_distance_26 : decode cX10_distance 26 = .ok (.iload_n 2, 1) := by decide +kernel
theorem dX10_distance_27 : decode cX10_distance 27 = .ok (.iaload, 1) := by decide +kernel
theorem dX10_distance_28 : decode cX10_distance 28 = .ok (.isub, 1) := by decide +kernel
theorem dX10_distance_29 : decode cX10_distance 29 = .ok (.invokestatic 131, 3) := by decide +kernel
theorem dX10_distance_32 : decode cX10_distance 32 = .ok (.iadd, 1) := by decide +kernel
theorem dX10_distance_33 : decode cX10_distance 33 = .ok (.ireturn, 1) := by decide +kernel
theorem dX10_setFirst_0 : decode cX10_setFirst 0 = .ok (.iconst 0, 1) := by decide +kernel
theorem dX10_setFirst_1 : decode cX10_setFirst 1 = .ok (.istore_n 1, 1) := by decide +kernel
theorem dX10_setFirst_2 : decode cX10_setFirst 2 = .ok (.iload_n 1, 1) := by decide +kernel
theorem dX10_setFirst_3 : decode cX10_setFirst 3 = .ok (.bipush 8, 2) := by decide +kernel
theorem dX10_setFirst_5 : decode cX10_setFirst 5 = .ok (.if_icmp .ge 163, 3) := by decide +kernel
theorem dX10_setFirst_8 : decode cX10_setFirst 8 = .ok (.iconst 0, 1) := by decide +kernel
theorem dX10_setFirst_9 : decode cX10_setFirst 9 = .ok (.istore_n 2, 1) := by decide +kernel
theorem dX10_setFirst_10 : decode cX10_setFirst 10 = .ok (.iload_n 2, 1) := by decide +kernel
theorem dX10_setFirst_11 : decode cX10_setFirst 11 = .ok (.bipush 8, 2) := by decide +kernel
theorem dX10_setFirst_13 : decode cX10_setFirst 13 = .ok (.if_icmp .ge 149, 3) := by decide +kernel
theorem dX10_setFirst_16 : decode cX10_setFirst 16 = .ok (.bipush 8, 2) := by decide +kernel
theorem dX10_setFirst_18 : decode cX10_setFirst 18 = .ok (.iload_n 1, 1) := by decide +kernel
theorem dX10_setFirst_19 : decode cX10_setFirst 19 = .ok (.imul, 1) := by decide +kernel
theorem dX10_setFirst_20 : decode cX10_setFirst 20 = .ok (.iload_n 2, 1) := by decide +kernel
theorem dX10_setFirst_21 : decode cX10_setFirst 21 = .ok (.iadd, 1) := by decide +kernel
theorem dX10_setFirst_22 : decode cX10_setFirst 22 = .ok (.istore_n 3, 1) := by decide +kernel
theorem dX10_setFirst_23 : decode cX10_setFirst 23 = .ok (.aload_n 0, 1) := by decide +kernel
theorem dX10_setFirst_24 : decode cX10_setFirst 24 = .ok (.getfield 50, 3) := by decide +kernel
theorem dX10_setFirst_27 : decode cX10_setFirst 27 = .ok (.iload_n 3, 1) := by decide +kernel
theorem dX10_setFirst_28 : decode cX10_setFirst 28 = .ok (.bipush (-4), 2) := by decide +kernel
theorem dX10_setFirst_30 : decode cX10_setFirst 30 = .ok (.iastore, 1) := by decide +kernel
theorem dX10_setFirst_31 : decode cX10_setFirst 31 = .ok (.iload_n 1, 1) := by decide +kernel
theorem dX10_setFirst_32 : decode cX10_setFirst 32 = .ok (.aload_n 0, 1) := by decide +kernel
theorem dX10_setFirst_33 : decode cX10_setFirst 33 = .ok (.getfield 16, 3) := by decide +kernel
theorem dX10_setFirst_36 : decode cX10_setFirst 36 = .ok (.iconst 0, 1) := by decide +kernel
theorem dX10_setFirst_37 : decode cX10_setFirst 37 = .ok (.iaload, 1) := by decide +kernel
theorem dX10_setFirst_38 : decode cX10_setFirst 38 = .ok (.if_icmp .ge 118, 3) := by decide +kernel
theorem dX10_setFirst_41 : decode cX10_setFirst 41 = .ok (.iload_n 2, 1) := by decide +kernel
theorem dX10_setFirst_42 : decode cX10_setFirst 42 = .ok (.aload_n 0, 1) := by decide +kernel
theorem dX10_setFirst_43 : decode cX10_setFirst 43 = .ok (.getfield 16, 3) := by decide +kernel
theorem dX10_setFirst_46 : decode cX10_setFirst 46 = .ok (.iconst 1, 1) := by decide +kernel
theorem dX10_setFirst_47 : decode cX10_setFirst 47 = .ok (.iaload, 1) := by decide +kernel
theorem dX10_setFirst_48 : decode cX10_setFirst 48 = .ok (.if_icmp .ge 108, 3) := by decide +kernel
theorem dX10_setFirst_51 : decode cX10_setFirst 51 = .ok (.aload_n 0, 1) := by decide +kernel
theorem dX10_setFirst_52 : decode cX10_setFirst 52 = .ok (.iload_n 1, 1) := by decide +kernel
theorem dX10_setFirst_53 : decode cX10_setFirst 53 = .ok (.bipush 8, 2) := by decide +kernel
theorem dX10_setFirst_55 : decode cX10_setFirst 55 = .ok (.iload_n 2, 1) := by decide +kernel
theorem dX10_setFirst_56 : decode cX10_setFirst 56 = .ok (.iadd, 1) := by decide +kernel
theorem dX10_setFirst_57 : decode cX10_setFirst 57 = .ok (.invokevirtual 134, 3) := by decide +kernel
theorem dX10_setFirst_60 : decode cX10_setFirst 60 = .ok (.istore 4, 2) := by decide +kernel
theorem dX10_setFirst_62 : decode cX10_setFirst 62 = .ok (.aload_n 0, 1) := by decide +kernel
theorem dX10_setFirst_63 : decode cX10_setFirst 63 = .ok (.iload_n 1, 1) := by decide +kernel
theorem dX10_setFirst_64 : decode cX10_setFirst 64 = .ok (.invokevirtual 96, 3) := by decide +kernel
theorem dX10_setFirst_67 : decode cX10_setFirst 67 = .ok (.istore 5, 2) := by decide +kernel
theorem dX10_setFirst_69 : decode cX10_setFirst 69 = .ok (.aload_n 0, 1) := by decide +kernel
theorem dX10_setFirst_70 : decode cX10_setFirst 70 = .ok (.bipush 8, 2) := by decide +kernel
theorem dX10_setFirst_72 : decode cX10_setFirst 72 = .ok (.iload_n 2, 1) := by decide +kernel
theorem dX10_setFirst_73 : decode cX10_setFirst 73 = .ok (.iadd, 1) := by decide +kernel
theorem dX10_setFirst_74 : decode cX10_setFirst 74 = .ok (.invokevirtual 96, 3) := by decide +kernel
theorem dX10_setFirst_77 : decode cX10_setFirst 77 = .ok (.istore 6, 2) := by decide +kernel
theorem dX10_setFirst_79 : decode cX10_setFirst 79 = .ok (.aload_n 0, 1) := by decide +kernel
theorem dX10_setFirst_80 : decode cX10_setFirst 80 = .ok (.getfield 7, 3) := by decide +kernel
theorem dX10_setFirst_83 : decode cX10_setFirst 83 = .ok (.aload_n 0, 1) := by decide +kernel
theorem dX10_setFirst_84 : decode cX10_setFirst 84 = .ok (.getfield 7, 3) := by decide +kernel
theorem dX10_setFirst_87 : decode cX10_setFirst 87 = .ok (.imul, 1) := by decide +kernel
theorem dX10_setFirst_88 : decode cX10_setFirst 88 = .ok (.iconst 1, 1) := by decide +kernel
theorem dX10_setFirst_89 : decode cX10_setFirst 89 = .ok (.iadd, 1) := by decide +kernel
theorem dX10_setFirst_90 : decode cX10_setFirst 90 = .ok (.iload 4, 2) := by decide +kernel
theorem dX10_setFirst_92 : decode cX10_setFirst 92 = .ok (.isub, 1) := by decide +kernel
theorem dX10_setFirst_93 : decode cX10_setFirst 93 = .ok (.istore 7, 2) := by decide +kernel
theorem dX10_setFirst_95 : decode cX10_setFirst 95 = .ok (.iload 4, 2) := by decide +kernel
theorem dX10_setFirst_97 : decode cX10_setFirst 97 = .ok (.iload 5, 2) := by decide +kernel
theorem dX10_setFirst_99 : decode cX10_setFirst 99 = .ok (.iload 6, 2) := by decide +kernel
theorem dX10_setFirst_101 : decode cX10_setFirst 101 = .ok (.if_icmp .ge 8, 3) := by decide +kernel
theorem dX10_setFirst_104 : decode cX10_setFirst 104 = .ok (.iload 5, 2) := by decide +kernel
theorem dX10_setFirst_106 : decode cX10_setFirst 106 = .ok (.goto 5, 3) := by decide +kernel
theorem dX10_setFirst_109 : decode cX10_setFirst 109 = .ok (.iload 6, 2) := by decide +kernel
theorem dX10_setFirst_111 : decode cX10_setFirst 111 = .ok (.invokestatic 131, 3) := by decide +kernel
theorem dX10_setFirst_114 : decode cX10_setFirst 114 = .ok (.if_icmp .gt 7, 3) := by decide +kernel
theorem dX10_setFirst_117 : decode cX10_setFirst 117 = .ok (.iconst 1, 1) := by decide +kernel
theorem dX10_setFirst_118 : decode cX10_setFirst 118 = .ok (.goto 4, 3) := by decide +kernel
theorem dX10_setFirst_121 : decode cX10_setFirst 121 = .ok (.iconst 0, 1) := by decide +kernel
theorem dX10_setFirst_122 : decode cX10_setFirst 122 = .ok (.istore 8, 2) := by decide +kernel
theorem dX10_setFirst_124 : decode cX10_setFirst 124 = .ok (.aload_n 0, 1) := by decide +kernel
theorem dX10_setFirst_125 : decode cX10_setFirst 125 = .ok (.getfield 50, 3) := by decide +kernel
theorem dX10_setFirst_128 : decode cX10_setFirst 128 = .ok (.iload_n 3, 1) := by decide +kernel
theorem dX10_setFirst_129 : decode cX10_setFirst 129 = .ok (.iload 8, 2) := by decide +kernel
theorem dX10_setFirst_131 : decode cX10_setFirst 131 = .ok (.ifCond .ne 8, 3) := by decide +kernel
theorem dX10_setFirst_134 : decode cX10_setFirst 134 = .ok (.bipush (-4), 2) := by decide +kernel
theorem dX10_setFirst_136 : decode cX10_setFirst 136 = .ok (.goto 19, 3) := by decide +kernel
theorem dX10_setFirst_139 : decode cX10_setFirst 139 = .ok (.sipush 512, 3) := by decide +kernel
theorem dX10_setFirst_142 : decode cX10_setFirst 142 = .ok (.iload 7, 2) := by decide +kernel
theorem dX10_setFirst_144 : decode cX10_setFirst 144 = .ok (.iconst 1, 1) := by decide +kernel
theorem dX10_setFirst_145 : decode cX10_setFirst 145 = .ok (.if_icmp .le 8, 3) := by decide +kernel
theorem dX10_setFirst_148 : decode cX10_setFirst 148 = .ok (.iload 7, 2) := by decide +kernel
theorem dX10_setFirst_150 : decode cX10_setFirst 150 = .ok (.goto 4, 3) := by decide +kernel
theorem dX10_setFirst_153 : decode cX10_setFirst 153 = .ok (.iconst 1, 1) := by decide +kernel
theorem dX10_setFirst_154 : decode cX10_setFirst 154 = .ok (.imul, 1) := by decide +kernel
theorem dX10_setFirst_155 : decode cX10_setFirst 155 = .ok (.iastore, 1) := by decide +kernel
theorem dX10_setFirst_156 : decode cX10_setFirst 156 = .ok (.iinc 2 1, 3) := by decide +kernel
theorem dX10_setFirst_159 : decode cX10_setFirst 159 = .ok (.goto (-149), 3) := by decide +kernel
theorem dX10_setFirst_162 : decode cX10_setFirst 162 = .ok (.iinc 1 1, 3) := by decide +kernel
theorem dX10_setFirst_165 : decode cX10_setFirst 165 = .ok (.goto (-163), 3) := by decide +kernel
theorem dX10_setFirst_168 : decode cX10_setFirst 168 = .ok (.return_, 1) := by decide +kernel
theorem dX10_otherEnd_0 : decode cX10_otherEnd 0 = .ok (.bipush 8, 2) := by decide +kernel
theorem dX10_otherEnd_2 : decode cX10_otherEnd 2 = .ok (.iload_n 1, 1) := by decide +kernel
theorem dX10_otherEnd_3 : decode cX10_otherEnd 3 = .ok (.imul, 1) := by decide +kernel
theorem dX10_otherEnd_4 : decode cX10_otherEnd 4 = .ok (.iload_n 2, 1) := by decide +kernel
theorem dX10_otherEnd_5 : decode cX10_otherEnd 5 = .ok (.iadd, 1) := by decide +kernel
theorem dX10_otherEnd_6 : decode cX10_otherEnd 6 = .ok (.istore 4, 2) := by decide +kernel
theorem dX10_otherEnd_8 : decode cX10_otherEnd 8 = .ok (.aload_n 0, 1) := by decide +kernel
theorem dX10_otherEnd_9 : decode cX10_otherEnd 9 = .ok (.getfield 32, 3) := by decide +kernel
theorem dX10_otherEnd_12 : decode cX10_otherEnd 12 = .ok (.iload 4, 2) := by decide +kernel
theorem dX10_otherEnd_14 : decode cX10_otherEnd 14 = .ok (.iaload, 1) := by decide +kernel
theorem dX10_otherEnd_15 : decode cX10_otherEnd 15 = .ok (.iload_n 3, 1) := by decide +kernel
theorem dX10_otherEnd_16 : decode cX10_otherEnd 16 = .ok (.if_icmp .ne 13, 3) := by decide +kernel
theorem dX10_otherEnd_19 : decode cX10_otherEnd 19 = .ok (.aload_n 0, 1) := by decide +kernel
theorem dX10_otherEnd_20 : decode cX10_otherEnd 20 = .ok (.getfield 35, 3) := by decide +kernel
theorem dX10_otherEnd_23 : decode cX10_otherEnd 23 = .ok (.iload 4, 2) := by decide +kernel
theorem dX10_otherEnd_25 : decode cX10_otherEnd 25 = .ok (.iaload, 1) := by decide +kernel
theorem dX10_otherEnd_26 : decode cX10_otherEnd 26 = .ok (.goto 26, 3) := by decide +kernel
theorem dX10_otherEnd_29 : decode cX10_otherEnd 29 = .ok (.aload_n 0, 1) := by decide +kernel
theorem dX10_otherEnd_30 : decode cX10_otherEnd 30 = .ok (.getfield 35, 3) := by decide +kernel
theorem dX10_otherEnd_33 : decode cX10_otherEnd 33 = .ok (.iload 4, 2) := by decide +kernel
theorem dX10_otherEnd_35 : decode cX10_otherEnd 35 = .ok (.iaload, 1) := by decide +kernel
theorem dX10_otherEnd_36 : decode cX10_otherEnd 36 = .ok (.iload_n 3, 1) := by decide +kernel
theorem dX10_otherEnd_37 : decode cX10_otherEnd 37 = .ok (.if_icmp .ne 13, 3) := by decide +kernel
theorem dX10_otherEnd_40 : decode cX10_otherEnd 40 = .ok (.aload_n 0, 1) := by decide +kernel
theorem dX10_otherEnd_41 : decode cX10_otherEnd 41 = .ok (.getfield 32, 3) := by decide +kernel
theorem dX10_otherEnd_44 : decode cX10_otherEnd 44 = .ok (.iload 4, 2) := by decide +kernel
theorem dX10_otherEnd_46 : decode cX10_otherEnd 46 = .ok (.iaload, 1) := by decide +kernel
theorem dX10_otherEnd_47 : decode cX10_otherEnd 47 = .ok (.goto 5, 3) := by decide +kernel
theorem dX10_otherEnd_50 : decode cX10_otherEnd 50 = .ok (.bipush (-4), 2) := by decide +kernel
theorem dX10_otherEnd_52 : decode cX10_otherEnd 52 = .ok (.ireturn, 1) := by decide +kernel
theorem dX10_believed_0 : decode cX10_believed 0 = .ok (.aload_n 0, 1) := by decide +kernel
theorem dX10_believed_1 : decode cX10_believed 1 = .ok (.getfield 50, 3) := by decide +kernel
theorem dX10_believed_4 : decode cX10_believed 4 = .ok (.bipush 8, 2) := by decide +kernel
theorem dX10_believed_6 : decode cX10_believed 6 = .ok (.iload_n 1, 1) := by decide +kernel
theorem dX10_believed_7 : decode cX10_believed 7 = .ok (.imul, 1) := by decide +kernel
theorem dX10_believed_8 : decode cX10_believed 8 = .ok (.iload_n 2, 1) := by decide +kernel
theorem dX10_believed_9 : decode cX10_believed 9 = .ok (.iadd, 1) := by decide +kernel
theorem dX10_believed_10 : decode cX10_believed 10 = .ok (.iaload, 1) := by decide +kernel
theorem dX10_believed_11 : decode cX10_believed 11 = .ok (.istore_n 3, 1) := by decide +kernel
theorem dX10_believed_12 : decode cX10_believed 12 = .ok (.iload_n 3, 1) := by decide +kernel
theorem dX10_believed_13 : decode cX10_believed 13 = .ok (.bipush (-4), 2) := by decide +kernel
theorem dX10_believed_15 : decode cX10_believed 15 = .ok (.if_icmp .ne 7, 3) := by decide +kernel
theorem dX10_believed_18 : decode cX10_believed 18 = .ok (.iconst 0, 1) := by decide +kernel
theorem dX10_believed_19 : decode cX10_believed 19 = .ok (.goto 4, 3) := by decide +kernel
theorem dX10_believed_22 : decode cX10_believed 22 = .ok (.iload_n 3, 1) := by decide +kernel
theorem dX10_believed_23 : decode cX10_believed 23 = .ok (.ireturn, 1) := by decide +kernel
theorem dX10_sumOf_0 : decode cX10_sumOf 0 = .ok (.iconst 0, 1) := by decide +kernel
theorem dX10_sumOf_1 : decode cX10_sumOf 1 = .ok (.istore 4, 2) := by decide +kernel
theorem dX10_sumOf_3 : decode cX10_sumOf 3 = .ok (.iload_n 1, 1) := by decide +kernel
theorem dX10_sumOf_4 : decode cX10_sumOf 4 = .ok (.ifCond .ne 7, 3) := by decide +kernel
theorem dX10_sumOf_7 : decode cX10_sumOf 7 = .ok (.iload_n 2, 1) := by decide +kernel
theorem dX10_sumOf_8 : decode cX10_sumOf 8 = .ok (.goto 4, 3) := by decide +kernel
theorem dX10_sumOf_11 : decode cX10_sumOf 11 = .ok (.iload_n 3, 1) := by decide +kernel
theorem dX10_sumOf_12 : decode cX10_sumOf 12 = .ok (.istore 5, 2) := by decide +kernel
theorem dX10_sumOf_14 : decode cX10_sumOf 14 = .ok (.iload_n 1, 1) := by decide +kernel
theorem dX10_sumOf_15 : decode cX10_sumOf 15 = .ok (.ifCond .ne 7, 3) := by decide +kernel
theorem dX10_sumOf_18 : decode cX10_sumOf 18 = .ok (.iload_n 3, 1) := by decide +kernel
theorem dX10_sumOf_19 : decode cX10_sumOf 19 = .ok (.goto 4, 3) := by decide +kernel
theorem dX10_sumOf_22 : decode cX10_sumOf 22 = .ok (.iload_n 2, 1) := by decide +kernel
theorem dX10_sumOf_23 : decode cX10_sumOf 23 = .ok (.istore 6, 2) := by decide +kernel
theorem dX10_sumOf_25 : decode cX10_sumOf 25 = .ok (.iconst 0, 1) := by decide +kernel
theorem dX10_sumOf_26 : decode cX10_sumOf 26 = .ok (.istore 7, 2) := by decide +kernel
theorem dX10_sumOf_28 : decode cX10_sumOf 28 = .ok (.iload 7, 2) := by decide +kernel
theorem dX10_sumOf_30 : decode cX10_sumOf 30 = .ok (.aload_n 0, 1) := by decide +kernel
theorem dX10_sumOf_31 : decode cX10_sumOf 31 = .ok (.getfield 20, 3) := by decide +kernel
theorem dX10_sumOf_34 : decode cX10_sumOf 34 = .ok (.iload_n 1, 1) := by decide +kernel
theorem dX10_sumOf_35 : decode cX10_sumOf 35 = .ok (.iaload, 1) := by decide +kernel
theorem dX10_sumOf_36 : decode cX10_sumOf 36 = .ok (.if_icmp .ge 124, 3) := by decide +kernel
theorem dX10_sumOf_39 : decode cX10_sumOf 39 = .ok (.aload_n 0, 1) := by decide +kernel
theorem dX10_sumOf_40 : decode cX10_sumOf 40 = .ok (.iload_n 1, 1) := by decide +kernel
theorem dX10_sumOf_41 : decode cX10_sumOf 41 = .ok (.iload 7, 2) := by decide +kernel
theorem dX10_sumOf_43 : decode cX10_sumOf 43 = .ok (.iload 5, 2) := by decide +kernel
theorem dX10_sumOf_45 : decode cX10_sumOf 45 = .ok (.invokevirtual 137, 3) := by decide +kernel
theorem dX10_sumOf_48 : decode cX10_sumOf 48 = .ok (.istore 8, 2) := by decide +kernel
theorem dX10_sumOf_50 : decode cX10_sumOf 50 = .ok (.iconst 0, 1) := by decide +kernel
theorem dX10_sumOf_51 : decode cX10_sumOf 51 = .ok (.istore 9, 2) := by decide +kernel
theorem dX10_sumOf_53 : decode cX10_sumOf 53 = .ok (.iconst 0, 1) := by decide +kernel
theorem dX10_sumOf_54 : decode cX10_sumOf 54 = .ok (.istore 10, 2) := by decide +kernel
theorem dX10_sumOf_56 : decode cX10_sumOf 56 = .ok (.iload 10, 2) := by decide +kernel
theorem dX10_sumOf_58 : decode cX10_sumOf 58 = .ok (.aload_n 0, 1) := by decide +kernel
theorem dX10_sumOf_59 : decode cX10_sumOf 59 = .ok (.getfield 20, 3) := by decide +kernel
theorem dX10_sumOf_62 : decode cX10_sumOf 62 = .ok (.iconst 1, 1) := by decide +kernel
theorem dX10_sumOf_63 : decode cX10_sumOf 63 = .ok (.iload_n 1, 1) := by decide +kernel
theorem dX10_sumOf_64 : decode cX10_sumOf 64 = .ok (.isub, 1) := by decide +kernel
theorem dX10_sumOf_65 : decode cX10_sumOf 65 = .ok (.iaload, 1) := by decide +kernel
theorem dX10_sumOf_66 : decode cX10_sumOf 66 = .ok (.if_icmp .ge 81, 3) := by decide +kernel
theorem dX10_sumOf_69 : decode cX10_sumOf 69 = .ok (.iload 8, 2) := by decide +kernel
theorem dX10_sumOf_71 : decode cX10_sumOf 71 = .ok (.bipush (-4), 2) := by decide +kernel
theorem dX10_sumOf_73 : decode cX10_sumOf 73 = .ok (.if_icmp .eq 74, 3) := by decide +kernel
theorem dX10_sumOf_76 : decode cX10_sumOf 76 = .ok (.aload_n 0, 1) := by decide +kernel
theorem dX10_sumOf_77 : decode cX10_sumOf 77 = .ok (.iconst 1, 1) := by decide +kernel
theorem dX10_sumOf_78 : decode cX10_sumOf 78 = .ok (.iload_n 1, 1) := by decide +kernel
theorem dX10_sumOf_79 : decode cX10_sumOf 79 = .ok (.isub, 1) := by decide +kernel
theorem dX10_sumOf_80 : decode cX10_sumOf 80 = .ok (.iload 10, 2) := by decide +kernel
theorem dX10_sumOf_82 : decode cX10_sumOf 82 = .ok (.iload 6, 2) := by decide +kernel
theorem dX10_sumOf_84 : decode cX10_sumOf 84 = .ok (.invokevirtual 137, 3) := by decide +kernel
theorem dX10_sumOf_87 : decode cX10_sumOf 87 = .ok (.istore 11, 2) := by decide +kernel
theorem dX10_sumOf_89 : decode cX10_sumOf 89 = .ok (.iload 11, 2) := by decide +kernel
theorem dX10_sumOf_91 : decode cX10_sumOf 91 = .ok (.bipush (-4), 2) := by decide +kernel
theorem dX10_sumOf_93 : decode cX10_sumOf 93 = .ok (.if_icmp .ne 7, 3) := by decide +kernel
theorem dX10_sumOf_96 : decode cX10_sumOf 96 = .ok (.iconst 0, 1) := by decide +kernel
theorem dX10_sumOf_97 : decode cX10_sumOf 97 = .ok (.goto 26, 3) := by decide +kernel
theorem dX10_sumOf_100 : decode cX10_sumOf 100 = .ok (.iload_n 1, 1) := by decide +kernel
theorem dX10_sumOf_101 : decode cX10_sumOf 101 = .ok (.ifCond .ne 14, 3) := by decide +kernel
theorem dX10_sumOf_104 : decode cX10_sumOf 104 = .ok (.aload_n 0, 1) := by decide +kernel
theorem dX10_sumOf_105 : decode cX10_sumOf 105 = .ok (.iload 8, 2) := by decide +kernel
theorem dX10_sumOf_107 : decode cX10_sumOf 107 = .ok (.iload 11, 2) := by decide +kernel
theorem dX10_sumOf_109 : decode cX10_sumOf 109 = .ok (.invokevirtual 140, 3) := by decide +kernel
theorem dX10_sumOf_112 : decode cX10_sumOf 112 = .ok (.goto 11, 3) := by decide +kernel
theorem dX10_sumOf_115 : decode cX10_sumOf 115 = .ok (.aload_n 0, 1) := by decide +kernel
theorem dX10_sumOf_116 : decode cX10_sumOf 116 = .ok (.iload 11, 2) := by decide +kernel
theorem dX10_sumOf_118 : decode cX10_sumOf 118 = .ok (.iload 8, 2) := by decide +kernel
theorem dX10_sumOf_120 : decode cX10_sumOf 120 = .ok (.invokevirtual 140, 3) := by decide +kernel
theorem dX10_sumOf_123 : decode cX10_sumOf 123 = .ok (.istore 12, 2) := by decide +kernel
theorem dX10_sumOf_125 : decode cX10_sumOf 125 = .ok (.iload 12, 2) := by decide +kernel
theorem dX10_sumOf_127 : decode cX10_sumOf 127 = .ok (.iload 9, 2) := by decide +kernel
theorem dX10_sumOf_129 : decode cX10_sumOf 129 = .ok (.if_icmp .le 8, 3) := by decide +kernel
theorem dX10_sumOf_132 : decode cX10_sumOf 132 = .ok (.iload 12, 2) := by decide +kernel
theorem dX10_sumOf_134 : decode cX10_sumOf 134 = .ok (.goto 5, 3) := by decide +kernel
theorem dX10_sumOf_137 : decode cX10_sumOf 137 = .ok (.iload 9, 2) := by decide +kernel
theorem dX10_sumOf_139 : decode cX10_sumOf 139 = .ok (.istore 9, 2) := by decide +kernel
theorem dX10_sumOf_141 : decode cX10_sumOf 141 = .ok (.iinc 10 1, 3) := by decide +kernel
theorem dX10_sumOf_144 : decode cX10_sumOf 144 = .ok (.goto (-88), 3) := by decide +kernel
theorem dX10_sumOf_147 : decode cX10_sumOf 147 = .ok (.iload 4, 2) := by decide +kernel
theorem dX10_sumOf_149 : decode cX10_sumOf 149 = .ok (.iload 9, 2) := by decide +kernel
theorem dX10_sumOf_151 : decode cX10_sumOf 151 = .ok (.iadd, 1) := by decide +kernel
theorem dX10_sumOf_152 : decode cX10_sumOf 152 = .ok (.istore 4, 2) := by decide +kernel
theorem dX10_sumOf_154 : decode cX10_sumOf 154 = .ok (.iinc 7 1, 3) := by decide +kernel
theorem dX10_sumOf_157 : decode cX10_sumOf 157 = .ok (.goto (-129), 3) := by decide +kernel
theorem dX10_sumOf_160 : decode cX10_sumOf 160 = .ok (.iload 4, 2) := by decide +kernel
theorem dX10_sumOf_162 : decode cX10_sumOf 162 = .ok (.ireturn, 1) := by decide +kernel
theorem dX10_setBelief_0 : decode cX10_setBelief 0 = .ok (.aload_n 0, 1) := by decide +kernel
theorem dX10_setBelief_1 : decode cX10_setBelief 1 = .ok (.invokevirtual 143, 3) := by decide +kernel
theorem dX10_setBelief_4 : decode cX10_setBelief 4 = .ok (.iconst 0, 1) := by decide +kernel
theorem dX10_setBelief_5 : decode cX10_setBelief 5 = .ok (.istore_n 1, 1) := by decide +kernel
theorem dX10_setBelief_6 : decode cX10_setBelief 6 = .ok (.iload_n 1, 1) := by decide +kernel
theorem dX10_setBelief_7 : decode cX10_setBelief 7 = .ok (.aload_n 0, 1) := by decide +kernel
theorem dX10_setBelief_8 : decode cX10_setBelief 8 = .ok (.getfield 13, 3) := by decide +kernel
theorem dX10_setBelief_11 : decode cX10_setBelief 11 = .ok (.if_icmp .ge 110, 3) := by decide +kernel
theorem dX10_setBelief_14 : decode cX10_setBelief 14 = .ok (.iconst 0, 1) := by decide +kernel
theorem dX10_setBelief_15 : decode cX10_setBelief 15 = .ok (.istore_n 2, 1) := by decide +kernel
theorem dX10_setBelief_16 : decode cX10_setBelief 16 = .ok (.iload_n 2, 1) := by decide +kernel
theorem dX10_setBelief_17 : decode cX10_setBelief 17 = .ok (.bipush 64, 2) := by decide +kernel
theorem dX10_setBelief_19 : decode cX10_setBelief 19 = .ok (.if_icmp .ge 70, 3) := by decide +kernel
theorem dX10_setBelief_22 : decode cX10_setBelief 22 = .ok (.aload_n 0, 1) := by decide +kernel
theorem dX10_setBelief_23 : decode cX10_setBelief 23 = .ok (.getfield 53, 3) := by decide +kernel
theorem dX10_setBelief_26 : decode cX10_setBelief 26 = .ok (.iload_n 2, 1) := by decide +kernel
theorem dX10_setBelief_27 : decode cX10_setBelief 27 = .ok (.aload_n 0, 1) := by decide +kernel
theorem dX10_setBelief_28 : decode cX10_setBelief 28 = .ok (.getfield 50, 3) := by decide +kernel
theorem dX10_setBelief_31 : decode cX10_setBelief 31 = .ok (.iload_n 2, 1) := by decide +kernel
theorem dX10_setBelief_32 : decode cX10_setBelief 32 = .ok (.iaload, 1) := by decide +kernel
theorem dX10_setBelief_33 : decode cX10_setBelief 33 = .ok (.bipush (-4), 2) := by decide +kernel
theorem dX10_setBelief_35 : decode cX10_setBelief 35 = .ok (.if_icmp .ne 8, 3) := by decide +kernel
theorem dX10_setBelief_38 : decode cX10_setBelief 38 = .ok (.bipush (-4), 2) := by decide +kernel
theorem dX10_setBelief_40 : decode cX10_setBelief 40 = .ok (.goto 42, 3) := by decide +kernel
theorem dX10_setBelief_43 : decode cX10_setBelief 43 = .ok (.aload_n 0, 1) := by decide +kernel
theorem dX10_setBelief_44 : decode cX10_setBelief 44 = .ok (.getfield 50, 3) := by decide +kernel
theorem dX10_setBelief_47 : decode cX10_setBelief 47 = .ok (.iload_n 2, 1) := by decide +kernel
theorem dX10_setBelief_48 : decode cX10_setBelief 48 = .ok (.iaload, 1) := by decide +kernel
theorem dX10_setBelief_49 : decode cX10_setBelief 49 = .ok (.iconst 2, 1) := by decide +kernel
theorem dX10_setBelief_50 : decode cX10_setBelief 50 = .ok (.idiv, 1) := by decide +kernel
theorem dX10_setBelief_51 : decode cX10_setBelief 51 = .ok (.aload_n 0, 1) := by decide +kernel
theorem dX10_setBelief_52 : decode cX10_setBelief 52 = .ok (.iconst 0, 1) := by decide +kernel
theorem dX10_setBelief_53 : decode cX10_setBelief 53 = .ok (.iload_n 2, 1) := by decide +kernel
theorem dX10_setBelief_54 : decode cX10_setBelief 54 = .ok (.bipush 8, 2) := by decide +kernel
theorem dX10_setBelief_56 : decode cX10_setBelief 56 = .ok (.idiv, 1) := by decide +kernel
theorem dX10_setBelief_57 : decode cX10_setBelief 57 = .ok (.iload_n 2, 1) := by decide +kernel
theorem dX10_setBelief_58 : decode cX10_setBelief 58 = .ok (.bipush 8, 2) := by decide +kernel
theorem dX10_setBelief_60 : decode cX10_setBelief 60 = .ok (.irem, 1) := by decide +kernel
theorem dX10_setBelief_61 : decode cX10_setBelief 61 = .ok (.invokevirtual 146, 3) := by decide +kernel
theorem dX10_setBelief_64 : decode cX10_setBelief 64 = .ok (.aload_n 0, 1) := by decide +kernel
theorem dX10_setBelief_65 : decode cX10_setBelief 65 = .ok (.iconst 1, 1) := by decide +kernel
theorem dX10_setBelief_66 : decode cX10_setBelief 66 = .ok (.iload_n 2, 1) := by decide +kernel
theorem dX10_setBelief_67 : decode cX10_setBelief 67 = .ok (.bipush 8, 2) := by decide +kernel
theorem dX10_setBelief_69 : decode cX10_setBelief 69 = .ok (.idiv, 1) := by decide +kernel
theorem dX10_setBelief_70 : decode cX10_setBelief 70 = .ok (.iload_n 2, 1) := by decide +kernel
theorem dX10_setBelief_71 : decode cX10_setBelief 71 = .ok (.bipush 8, 2) := by decide +kernel
theorem dX10_setBelief_73 : decode cX10_setBelief 73 = .ok (.irem, 1) := by decide +kernel
theorem dX10_setBelief_74 : decode cX10_setBelief 74 = .ok (.invokevirtual 146, 3) := by decide +kernel
theorem dX10_setBelief_77 : decode cX10_setBelief 77 = .ok (.iadd, 1) := by decide +kernel
theorem dX10_setBelief_78 : decode cX10_setBelief 78 = .ok (.bipush 8, 2) := by decide +kernel
theorem dX10_setBelief_80 : decode cX10_setBelief 80 = .ok (.idiv, 1) := by decide +kernel
theorem dX10_setBelief_81 : decode cX10_setBelief 81 = .ok (.iadd, 1) := by decide +kernel
theorem dX10_setBelief_82 : decode cX10_setBelief 82 = .ok (.iastore, 1) := by decide +kernel
theorem dX10_setBelief_83 : decode cX10_setBelief 83 = .ok (.iinc 2 1, 3) := by decide +kernel
theorem dX10_setBelief_86 : decode cX10_setBelief 86 = .ok (.goto (-70), 3) := by decide +kernel
theorem dX10_setBelief_89 : decode cX10_setBelief 89 = .ok (.iconst 0, 1) := by decide +kernel
theorem dX10_setBelief_90 : decode cX10_setBelief 90 = .ok (.istore_n 2, 1) := by decide +kernel
theorem dX10_setBelief_91 : decode cX10_setBelief 91 = .ok (.iload_n 2, 1) := by decide +kernel
theorem dX10_setBelief_92 : decode cX10_setBelief 92 = .ok (.bipush 64, 2) := by decide +kernel
theorem dX10_setBelief_94 : decode cX10_setBelief 94 = .ok (.if_icmp .ge 21, 3) := by decide +kernel
theorem dX10_setBelief_97 : decode cX10_setBelief 97 = .ok (.aload_n 0, 1) := by decide +kernel
theorem dX10_setBelief_98 : decode cX10_setBelief 98 = .ok (.getfield 50, 3) := by decide +kernel
theorem dX10_setBelief_101 : decode cX10_setBelief 101 = .ok (.iload_n 2, 1) := by decide +kernel
theorem dX10_setBelief_102 : decode cX10_setBelief 102 = .ok (.aload_n 0, 1) := by decide +kernel
theorem dX10_setBelief_103 : decode cX10_setBelief 103 = .ok (.getfield 53, 3) := by decide +kernel
theorem dX10_setBelief_106 : decode cX10_setBelief 106 = .ok (.iload_n 2, 1) := by decide +kernel
theorem dX10_setBelief_107 : decode cX10_setBelief 107 = .ok (.iaload, 1) := by decide +kernel
theorem dX10_setBelief_108 : decode cX10_setBelief 108 = .ok (.iastore, 1) := by decide +kernel
theorem dX10_setBelief_109 : decode cX10_setBelief 109 = .ok (.iinc 2 1, 3) := by decide +kernel
theorem dX10_setBelief_112 : decode cX10_setBelief 112 = .ok (.goto (-21), 3) := by decide +kernel
theorem dX10_setBelief_115 : decode cX10_setBelief 115 = .ok (.iinc 1 1, 3) := by decide +kernel
theorem dX10_setBelief_118 : decode cX10_setBelief 118 = .ok (.goto (-112), 3) := by decide +kernel
theorem dX10_setBelief_121 : decode cX10_setBelief 121 = .ok (.return_, 1) := by decide +kernel
theorem dX10_belief_0 : decode cX10_belief 0 = .ok (.aload_n 0, 1) := by decide +kernel
theorem dX10_belief_1 : decode cX10_belief 1 = .ok (.iconst 0, 1) := by decide +kernel
theorem dX10_belief_2 : decode cX10_belief 2 = .ok (.iload_n 1, 1) := by decide +kernel
theorem dX10_belief_3 : decode cX10_belief 3 = .ok (.invokevirtual 92, 3) := by decide +kernel
theorem dX10_belief_6 : decode cX10_belief 6 = .ok (.ifCond .eq 12, 3) := by decide +kernel
theorem dX10_belief_9 : decode cX10_belief 9 = .ok (.aload_n 0, 1) := by decide +kernel
theorem dX10_belief_10 : decode cX10_belief 10 = .ok (.iconst 1, 1) := by decide +kernel
theorem dX10_belief_11 : decode cX10_belief 11 = .ok (.iload_n 2, 1) := by decide +kernel
theorem dX10_belief_12 : decode cX10_belief 12 = .ok (.invokevirtual 92, 3) := by decide +kernel
theorem dX10_belief_15 : decode cX10_belief 15 = .ok (.ifCond .ne 5, 3) := by decide +kernel
theorem dX10_belief_18 : decode cX10_belief 18 = .ok (.iconst (-1), 1) := by decide +kernel
theorem dX10_belief_19 : decode cX10_belief 19 = .ok (.ireturn, 1) := by decide +kernel
theorem dX10_belief_20 : decode cX10_belief 20 = .ok (.aload_n 0, 1) := by decide +kernel
theorem dX10_belief_21 : decode cX10_belief 21 = .ok (.invokevirtual 149, 3) := by decide +kernel
theorem dX10_belief_24 : decode cX10_belief 24 = .ok (.aload_n 0, 1) := by decide +kernel
theorem dX10_belief_25 : decode cX10_belief 25 = .ok (.getfield 50, 3) := by decide +kernel
theorem dX10_belief_28 : decode cX10_belief 28 = .ok (.bipush 8, 2) := by decide +kernel
theorem dX10_belief_30 : decode cX10_belief 30 = .ok (.iload_n 1, 1) := by decide +kernel
theorem dX10_belief_31 : decode cX10_belief 31 = .ok (.imul, 1) := by decide +kernel
theorem dX10_belief_32 : decode cX10_belief 32 = .ok (.iload_n 2, 1) := by decide +kernel
theorem dX10_belief_33 : decode cX10_belief 33 = .ok (.iadd, 1) := by decide +kernel
theorem dX10_belief_34 : decode cX10_belief 34 = .ok (.iaload, 1) := by decide +kernel
theorem dX10_belief_35 : decode cX10_belief 35 = .ok (.ireturn, 1) := by decide +kernel
theorem dX10_matches_0 : decode cX10_matches 0 = .ok (.iconst 0, 1) := by decide +kernel
theorem dX10_matches_1 : decode cX10_matches 1 = .ok (.istore_n 3, 1) := by decide +kernel
theorem dX10_matches_2 : decode cX10_matches 2 = .ok (.iload_n 3, 1) := by decide +kernel
theorem dX10_matches_3 : decode cX10_matches 3 = .ok (.bipush 16, 2) := by decide +kernel
theorem dX10_matches_5 : decode cX10_matches 5 = .ok (.if_icmp .ge 14, 3) := by decide +kernel
theorem dX10_matches_8 : decode cX10_matches 8 = .ok (.aload_n 1, 1) := by decide +kernel
theorem dX10_matches_9 : decode cX10_matches 9 = .ok (.iload_n 3, 1) := by decide +kernel
theorem dX10_matches_10 : decode cX10_matches 10 = .ok (.bipush (-4), 2) := by decide +kernel
theorem dX10_matches_12 : decode cX10_matches 12 = .ok (.iastore, 1) := by decide +kernel
theorem dX10_matches_13 : decode cX10_matches 13 = .ok (.iinc 3 1, 3) := by decide +kernel
theorem dX10_matches_16 : decode cX10_matches 16 = .ok (.goto (-14), 3) := by decide +kernel
theorem dX10_matches_19 : decode cX10_matches 19 = .ok (.iconst 0, 1) := by decide +kernel
theorem dX10_matches_20 : decode cX10_matches 20 = .ok (.istore_n 3, 1) := by decide +kernel
theorem dX10_matches_21 : decode cX10_matches 21 = .ok (.iload_n 3, 1) := by decide +kernel
theorem dX10_matches_22 : decode cX10_matches 22 = .ok (.bipush (-4), 2) := by decide +kernel
theorem dX10_matches_24 : decode cX10_matches 24 = .ok (.if_icmp .eq 176, 3) := by decide +kernel
theorem dX10_matches_27 : decode cX10_matches 27 = .ok (.bipush (-4), 2) := by decide +kernel
theorem dX10_matches_29 : decode cX10_matches 29 = .ok (.istore_n 3, 1) := by decide +kernel
theorem dX10_matches_30 : decode cX10_matches 30 = .ok (.iconst 0, 1) := by decide +kernel
theorem dX10_matches_31 : decode cX10_matches 31 = .ok (.istore 4, 2) := by decide +kernel
theorem dX10_matches_33 : decode cX10_matches 33 = .ok (.iload 4, 2) := by decide +kernel
theorem dX10_matches_35 : decode cX10_matches 35 = .ok (.bipush 64, 2) := by decide +kernel
theorem dX10_matches_37 : decode cX10_matches 37 = .ok (.if_icmp .ge 131, 3) := by decide +kernel
theorem dX10_matches_40 : decode cX10_matches 40 = .ok (.iload_n 2, 1) := by decide +kernel
theorem dX10_matches_41 : decode cX10_matches 41 = .ok (.ifCond .eq 11, 3) := by decide +kernel
theorem dX10_matches_44 : decode cX10_matches 44 = .ok (.iload 4, 2) := by decide +kernel
theorem dX10_matches_46 : decode cX10_matches 46 = .ok (.bipush 8, 2) := by decide +kernel
theorem dX10_matches_48 : decode cX10_matches 48 = .ok (.irem, 1) := by decide +kernel
theorem dX10_matches_49 : decode cX10_matches 49 = .ok (.goto 8, 3) := by decide +kernel
theorem dX10_matches_52 : decode cX10_matches 52 = .ok (.iload 4, 2) := by decide +kernel
theorem dX10_matches_54 : decode cX10_matches 54 = .ok (.bipush 8, 2) := by decide +kernel
theorem dX10_matches_56 : decode cX10_matches 56 = .ok (.idiv, 1) := by decide +kernel
theorem dX10_matches_57 : decode cX10_matches 57 = .ok (.istore 5, 2) := by decide +kernel
theorem dX10_matches_59 : decode cX10_matches 59 = .ok (.iload_n 2, 1) := by decide +kernel
theorem dX10_matches_60 : decode cX10_matches 60 = .ok (.ifCond .eq 11, 3) := by decide +kernel
theorem dX10_matches_63 : decode cX10_matches 63 = .ok (.iload 4, 2) := by decide +kernel
theorem dX10_matches_65 : decode cX10_matches 65 = .ok (.bipush 8, 2) := by decide +kernel
theorem dX10_matches_67 : decode cX10_matches 67 = .ok (.idiv, 1) := by decide +kernel
theorem dX10_matches_68 : decode cX10_matches 68 = .ok (.goto 8, 3) := by decide +kernel
theorem dX10_matches_71 : decode cX10_matches 71 = .ok (.iload 4, 2) := by decide +kernel
theorem dX10_matches_73 : decode cX10_matches 73 = .ok (.bipush 8, 2) := by decide +kernel
theorem dX10_matches_75 : decode cX10_matches 75 = .ok (.irem, 1) := by decide +kernel
theorem dX10_matches_76 : decode cX10_matches 76 = .ok (.istore 6, 2) := by decide +kernel
theorem dX10_matches_78 : decode cX10_matches 78 = .ok (.bipush 8, 2) := by decide +kernel
theorem dX10_matches_80 : decode cX10_matches 80 = .ok (.iload 5, 2) := by decide +kernel
theorem dX10_matches_82 : decode cX10_matches 82 = .ok (.imul, 1) := by decide +kernel
theorem dX10_matches_83 : decode cX10_matches 83 = .ok (.iload 6, 2) := by decide +kernel
theorem dX10_matches_85 : decode cX10_matches 85 = .ok (.iadd, 1) := by decide +kernel
theorem dX10_matches_86 : decode cX10_matches 86 = .ok (.istore 7, 2) := by decide +kernel
theorem dX10_matches_88 : decode cX10_matches 88 = .ok (.aload_n 0, 1) := by decide +kernel
theorem dX10_matches_89 : decode cX10_matches 89 = .ok (.getfield 50, 3) := by decide +kernel
theorem dX10_matches_92 : decode cX10_matches 92 = .ok (.iload 7, 2) := by decide +kernel
theorem dX10_matches_94 : decode cX10_matches 94 = .ok (.iaload, 1) := by decide +kernel
theorem dX10_matches_95 : decode cX10_matches 95 = .ok (.bipush (-4), 2) := by decide +kernel
theorem dX10_matches_97 : decode cX10_matches 97 = .ok (.if_icmp .eq 28, 3) := by decide +kernel
theorem dX10_matches_100 : decode cX10_matches 100 = .ok (.aload_n 1, 1) := by decide +kernel
theorem dX10_matches_101 : decode cX10_matches 101 = .ok (.iload 5, 2) := by decide +kernel
theorem dX10_matches_103 : decode cX10_matches 103 = .ok (.iaload, 1) := by decide +kernel
theorem dX10_matches_104 : decode cX10_matches 104 = .ok (.bipush (-4), 2) := by decide +kernel
theorem dX10_matches_106 : decode cX10_matches 106 = .ok (.if_icmp .ne 19, 3) := by decide +kernel
theorem dX10_matches_109 : decode cX10_matches 109 = .ok (.aload_n 1, 1) := by decide +kernel
theorem dX10_matches_110 : decode cX10_matches 110 = .ok (.bipush 8, 2) := by decide +kernel
theorem dX10_matches_112 : decode cX10_matches 112 = .ok (.iload 6, 2) := by decide +kernel
theorem dX10_matches_114 : decode cX10_matches 114 = .ok (.iadd, 1) := by decide +kernel
theorem dX10_matches_115 : decode cX10_matches 115 = .ok (.iaload, 1) := by decide +kernel
theorem dX10_matches_116 : decode cX10_matches 116 = .ok (.bipush (-4), 2) := by decide +kernel
theorem dX10_matches_118 : decode cX10_matches 118 = .ok (.if_icmp .ne 7, 3) := by decide +kernel
theorem dX10_matches_121 : decode cX10_matches 121 = .ok (.iconst 1, 1) := by decide +kernel
theorem dX10_matches_122 : decode cX10_matches 122 = .ok (.goto 4, 3) := by decide +kernel
theorem dX10_matches_125 : decode cX10_matches 125 = .ok (.iconst 0, 1) := by decide +kernel
theorem dX10_matches_126 : decode cX10_matches 126 = .ok (.istore 8, 2) := by decide +kernel
theorem dX10_matches_128 : decode cX10_matches 128 = .ok (.iload 8, 2) := by decide +kernel
theorem dX10_matches_130 : decode cX10_matches 130 = .ok (.ifCond .eq 30, 3) := by decide +kernel
theorem dX10_matches_133 : decode cX10_matches 133 = .ok (.iload_n 3, 1) := by decide +kernel
theorem dX10_matches_134 : decode cX10_matches 134 = .ok (.bipush (-4), 2) := by decide +kernel
theorem dX10_matches_136 : decode cX10_matches 136 = .ok (.if_icmp .eq 19, 3) := by decide +kernel
theorem dX10_matches_139 : decode cX10_matches 139 = .ok (.aload_n 0, 1) := by decide +kernel
theorem dX10_matches_140 : decode cX10_matches 140 = .ok (.getfield 50, 3) := by decide +kernel
theorem dX10_matches_143 : decode cX10_matches 143 = .ok (.iload 7, 2) := by decide +kernel
theorem dX10_matches_145 : decode cX10_matches 145 = .ok (.iaload, 1) := by decide +kernel
theorem dX10_matches_146 : decode cX10_matches 146 = .ok (.aload_n 0, 1) := by decide +kernel
theorem dX10_matches_147 : decode cX10_matches 147 = .ok (.getfield 50, 3) := by decide +kernel
theorem dX10_matches_150 : decode cX10_matches 150 = .ok (.iload_n 3, 1) := by decide +kernel
theorem dX10_matches_151 : decode cX10_matches 151 = .ok (.iaload, 1) := by decide +kernel
theorem dX10_matches_152 : decode cX10_matches 152 = .ok (.if_icmp .le 8, 3) := by decide +kernel
theorem dX10_matches_155 : decode cX10_matches 155 = .ok (.iload 7, 2) := by decide +kernel
theorem dX10_matches_157 : decode cX10_matches 157 = .ok (.goto 4, 3) := by decide +kernel
theorem dX10_matches_160 : decode cX10_matches 160 = .ok (.iload_n 3, 1) := by decide +kernel
theorem dX10_matches_161 : decode cX10_matches 161 = .ok (.istore_n 3, 1) := by decide +kernel
theorem dX10_matches_162 : decode cX10_matches 162 = .ok (.iinc 4 1, 3) := by decide +kernel
theorem dX10_matches_165 : decode cX10_matches 165 = .ok (.goto (-132), 3) := by decide +kernel
theorem dX10_matches_168 : decode cX10_matches 168 = .ok (.iload_n 3, 1) := by decide +kernel
theorem dX10_matches_169 : decode cX10_matches 169 = .ok (.bipush (-4), 2) := by decide +kernel
theorem dX10_matches_171 : decode cX10_matches 171 = .ok (.if_icmp .eq (-150), 3) := by decide +kernel
theorem dX10_matches_174 : decode cX10_matches 174 = .ok (.aload_n 1, 1) := by decide +kernel
theorem dX10_matches_175 : decode cX10_matches 175 = .ok (.iload_n 3, 1) := by decide +kernel
theorem dX10_matches_176 : decode cX10_matches 176 = .ok (.bipush 8, 2) := by decide +kernel
theorem dX10_matches_178 : decode cX10_matches 178 = .ok (.idiv, 1) := by decide +kernel
theorem dX10_matches_179 : decode cX10_matches 179 = .ok (.iload_n 3, 1) := by decide +kernel
theorem dX10_matches_180 : decode cX10_matches 180 = .ok (.bipush 8, 2) := by decide +kernel
theorem dX10_matches_182 : decode cX10_matches 182 = .ok (.irem, 1) := by decide +kernel
theorem dX10_matches_183 : decode cX10_matches 183 = .ok (.iastore, 1) := by decide +kernel
theorem dX10_matches_184 : decode cX10_matches 184 = .ok (.aload_n 1, 1) := by decide +kernel
theorem dX10_matches_185 : decode cX10_matches 185 = .ok (.bipush 8, 2) := by decide +kernel
theorem dX10_matches_187 : decode cX10_matches 187 = .ok (.iload_n 3, 1) := by decide +kernel
theorem dX10_matches_188 : decode cX10_matches 188 = .ok (.bipush 8, 2) := by decide +kernel
theorem dX10_matches_190 : decode cX10_matches 190 = .ok (.irem, 1) := by decide +kernel
theorem dX10_matches_191 : decode cX10_matches 191 = .ok (.iadd, 1) := by decide +kernel
theorem dX10_matches_192 : decode cX10_matches 192 = .ok (.iload_n 3, 1) := by decide +kernel
theorem dX10_matches_193 : decode cX10_matches 193 = .ok (.bipush 8, 2) := by decide +kernel
theorem dX10_matches_195 : decode cX10_matches 195 = .ok (.idiv, 1) := by decide +kernel
theorem dX10_matches_196 : decode cX10_matches 196 = .ok (.iastore, 1) := by decide +kernel
theorem dX10_matches_197 : decode cX10_matches 197 = .ok (.goto (-176), 3) := by decide +kernel
theorem dX10_matches_200 : decode cX10_matches 200 = .ok (.return_, 1) := by decide +kernel
theorem dX10_setMatches_0 : decode cX10_setMatches 0 = .ok (.aload_n 0, 1) := by decide +kernel
theorem dX10_setMatches_1 : decode cX10_setMatches 1 = .ok (.invokevirtual 149, 3) := by decide +kernel
theorem dX10_setMatches_4 : decode cX10_setMatches 4 = .ok (.aload_n 0, 1) := by decide +kernel
theorem dX10_setMatches_5 : decode cX10_setMatches 5 = .ok (.aload_n 0, 1) := by decide +kernel
theorem dX10_setMatches_6 : decode cX10_setMatches 6 = .ok (.getfield 56, 3) := by decide +kernel
theorem dX10_setMatches_9 : decode cX10_setMatches 9 = .ok (.iconst 0, 1) := by decide +kernel
theorem dX10_setMatches_10 : decode cX10_setMatches 10 = .ok (.invokevirtual 152, 3) := by decide +kernel
theorem dX10_setMatches_13 : decode cX10_setMatches 13 = .ok (.return_, 1) := by decide +kernel
theorem dX10_match_0 : decode cX10_match 0 = .ok (.aload_n 0, 1) := by decide +kernel
theorem dX10_match_1 : decode cX10_match 1 = .ok (.iload_n 1, 1) := by decide +kernel
theorem dX10_match_2 : decode cX10_match 2 = .ok (.iload_n 2, 1) := by decide +kernel
theorem dX10_match_3 : decode cX10_match 3 = .ok (.invokevirtual 92, 3) := by decide +kernel
theorem dX10_match_6 : decode cX10_match 6 = .ok (.ifCond .ne 5, 3) := by decide +kernel
theorem dX10_match_9 : decode cX10_match 9 = .ok (.iconst (-1), 1) := by decide +kernel
theorem dX10_match_10 : decode cX10_match 10 = .ok (.ireturn, 1) := by decide +kernel
theorem dX10_match_11 : decode cX10_match 11 = .ok (.aload_n 0, 1) := by decide +kernel
theorem dX10_match_12 : decode cX10_match 12 = .ok (.invokevirtual 156, 3) := by decide +kernel
theorem dX10_match_15 : decode cX10_match 15 = .ok (.aload_n 0, 1) := by decide +kernel
theorem dX10_match_16 : decode cX10_match 16 = .ok (.getfield 56, 3) := by decide +kernel
theorem dX10_match_19 : decode cX10_match 19 = .ok (.bipush 8, 2) := by decide +kernel
theorem dX10_match_21 : decode cX10_match 21 = .ok (.iload_n 1, 1) := by decide +kernel
theorem dX10_match_22 : decode cX10_match 22 = .ok (.imul, 1) := by decide +kernel
theorem dX10_match_23 : decode cX10_match 23 = .ok (.iload_n 2, 1) := by decide +kernel
theorem dX10_match_24 : decode cX10_match 24 = .ok (.iadd, 1) := by decide +kernel
theorem dX10_match_25 : decode cX10_match 25 = .ok (.iaload, 1) := by decide +kernel
theorem dX10_match_26 : decode cX10_match 26 = .ok (.ireturn, 1) := by decide +kernel
theorem dX10_goes_0 : decode cX10_goes 0 = .ok (.aload_n 0, 1) := by decide +kernel
theorem dX10_goes_1 : decode cX10_goes 1 = .ok (.getfield 159, 3) := by decide +kernel
theorem dX10_goes_4 : decode cX10_goes 4 = .ok (.ifCond .ne 38, 3) := by decide +kernel
theorem dX10_goes_7 : decode cX10_goes 7 = .ok (.aload_n 0, 1) := by decide +kernel
theorem dX10_goes_8 : decode cX10_goes 8 = .ok (.iload_n 1, 1) := by decide +kernel
theorem dX10_goes_9 : decode cX10_goes 9 = .ok (.putfield 159, 3) := by decide +kernel
theorem dX10_goes_12 : decode cX10_goes 12 = .ok (.aload_n 0, 1) := by decide +kernel
theorem dX10_goes_13 : decode cX10_goes 13 = .ok (.getfield 62, 3) := by decide +kernel
theorem dX10_goes_16 : decode cX10_goes 16 = .ok (.iconst 0, 1) := by decide +kernel
theorem dX10_goes_17 : decode cX10_goes 17 = .ok (.iload_n 2, 1) := by decide +kernel
theorem dX10_goes_18 : decode cX10_goes 18 = .ok (.iastore, 1) := by decide +kernel
theorem dX10_goes_19 : decode cX10_goes 19 = .ok (.aload_n 0, 1) := by decide +kernel
theorem dX10_goes_20 : decode cX10_goes 20 = .ok (.getfield 62, 3) := by decide +kernel
theorem dX10_goes_23 : decode cX10_goes 23 = .ok (.iconst 1, 1) := by decide +kernel
theorem dX10_goes_24 : decode cX10_goes 24 = .ok (.iload_n 3, 1) := by decide +kernel
theorem dX10_goes_25 : decode cX10_goes 25 = .ok (.iastore, 1) := by decide +kernel
theorem dX10_goes_26 : decode cX10_goes 26 = .ok (.aload_n 0, 1) := by decide +kernel
theorem dX10_goes_27 : decode cX10_goes 27 = .ok (.getfield 62, 3) := by decide +kernel
theorem dX10_goes_30 : decode cX10_goes 30 = .ok (.iconst 2, 1) := by decide +kernel
theorem dX10_goes_31 : decode cX10_goes 31 = .ok (.iload 4, 2) := by decide +kernel
theorem dX10_goes_33 : decode cX10_goes 33 = .ok (.iastore, 1) := by decide +kernel
theorem dX10_goes_34 : decode cX10_goes 34 = .ok (.aload_n 0, 1) := by decide +kernel
theorem dX10_goes_35 : decode cX10_goes 35 = .ok (.getfield 62, 3) := by decide +kernel
theorem dX10_goes_38 : decode cX10_goes 38 = .ok (.iconst 3, 1) := by decide +kernel
theorem dX10_goes_39 : decode cX10_goes 39 = .ok (.iload 5, 2) := by decide +kernel
theorem dX10_goes_41 : decode cX10_goes 41 = .ok (.iastore, 1) := by decide +kernel
theorem dX10_goes_42 : decode cX10_goes 42 = .ok (.return_, 1) := by decide +kernel
theorem dX10_isWay_0 : decode cX10_isWay 0 = .ok (.iload_n 1, 1) := by decide +kernel
theorem dX10_isWay_1 : decode cX10_isWay 1 = .ok (.iload_n 2, 1) := by decide +kernel
theorem dX10_isWay_2 : decode cX10_isWay 2 = .ok (.if_icmp .eq 19, 3) := by decide +kernel
theorem dX10_isWay_5 : decode cX10_isWay 5 = .ok (.aload_n 0, 1) := by decide +kernel
theorem dX10_isWay_6 : decode cX10_isWay 6 = .ok (.iconst 1, 1) := by decide +kernel
theorem dX10_isWay_7 : decode cX10_isWay 7 = .ok (.iload_n 1, 1) := by decide +kernel
theorem dX10_isWay_8 : decode cX10_isWay 8 = .ok (.iload_n 2, 1) := by decide +kernel
theorem dX10_isWay_9 : decode cX10_isWay 9 = .ok (.invokevirtual 121, 3) := by decide +kernel
theorem dX10_isWay_12 : decode cX10_isWay 12 = .ok (.bipush (-4), 2) := by decide +kernel
theorem dX10_isWay_14 : decode cX10_isWay 14 = .ok (.if_icmp .eq 7, 3) := by decide +kernel
theorem dX10_isWay_17 : decode cX10_isWay 17 = .ok (.iconst 1, 1) := by decide +kernel
theorem dX10_isWay_18 : decode cX10_isWay 18 = .ok (.goto 4, 3) := by decide +kernel
theorem dX10_isWay_21 : decode cX10_isWay 21 = .ok (.iconst 0, 1) := by decide +kernel
theorem dX10_isWay_22 : decode cX10_isWay 22 = .ok (.ireturn, 1) := by decide +kernel
theorem dX10_setPath_0 : decode cX10_setPath 0 = .ok (.aload_n 0, 1) := by decide +kernel
theorem dX10_setPath_1 : decode cX10_setPath 1 = .ok (.iconst 0, 1) := by decide +kernel
theorem dX10_setPath_2 : decode cX10_setPath 2 = .ok (.putfield 159, 3) := by decide +kernel
theorem dX10_setPath_5 : decode cX10_setPath 5 = .ok (.aload_n 0, 1) := by decide +kernel
theorem dX10_setPath_6 : decode cX10_setPath 6 = .ok (.getfield 56, 3) := by decide +kernel
theorem dX10_setPath_9 : decode cX10_setPath 9 = .ok (.aload_n 0, 1) := by decide +kernel
theorem dX10_setPath_10 : decode cX10_setPath 10 = .ok (.getfield 32, 3) := by decide +kernel
theorem dX10_setPath_13 : decode cX10_setPath 13 = .ok (.iload_n 1, 1) := by decide +kernel
theorem dX10_setPath_14 : decode cX10_setPath 14 = .ok (.iaload, 1) := by decide +kernel
theorem dX10_setPath_15 : decode cX10_setPath 15 = .ok (.iaload, 1) := by decide +kernel
theorem dX10_setPath_16 : decode cX10_setPath 16 = .ok (.istore_n 2, 1) := by decide +kernel
theorem dX10_setPath_17 : decode cX10_setPath 17 = .ok (.aload_n 0, 1) := by decide +kernel
theorem dX10_setPath_18 : decode cX10_setPath 18 = .ok (.getfield 56, 3) := by decide +kernel
theorem dX10_setPath_21 : decode cX10_setPath 21 = .ok (.aload_n 0, 1) := by decide +kernel
theorem dX10_setPath_22 : decode cX10_setPath 22 = .ok (.getfield 35, 3) := by decide +kernel
theorem dX10_setPath_25 : decode cX10_setPath 25 = .ok (.iload_n 1, 1) := by decide +kernel
theorem dX10_setPath_26 : decode cX10_setPath 26 = .ok (.iaload, 1) := by decide +kernel
theorem dX10_setPath_27 : decode cX10_setPath 27 = .ok (.iaload, 1) := by decide +kernel
theorem dX10_setPath_28 : decode cX10_setPath 28 = .ok (.istore_n 3, 1) := by decide +kernel
theorem dX10_setPath_29 : decode cX10_setPath 29 = .ok (.iload_n 2, 1) := by decide +kernel
theorem dX10_setPath_30 : decode cX10_setPath 30 = .ok (.bipush (-4), 2) := by decide +kernel
theorem dX10_setPath_32 : decode cX10_setPath 32 = .ok (.if_icmp .eq 9, 3) := by decide +kernel
theorem dX10_setPath_35 : decode cX10_setPath 35 = .ok (.iload_n 3, 1) := by decide +kernel
theorem dX10_setPath_36 : decode cX10_setPath 36 = .ok (.bipush (-4), 2) := by decide +kernel
theorem dX10_setPath_38 : decode cX10_setPath 38 = .ok (.if_icmp .ne 4, 3) := by decide +kernel
theorem dX10_setPath_41 : decode cX10_setPath 41 = .ok (.return_, 1) := by decide +kernel
theorem dX10_setPath_42 : decode cX10_setPath 42 = .ok (.aload_n 0, 1) := by decide +kernel
theorem dX10_setPath_43 : decode cX10_setPath 43 = .ok (.iload_n 2, 1) := by decide +kernel
theorem dX10_setPath_44 : decode cX10_setPath 44 = .ok (.iload_n 3, 1) := by decide +kernel
theorem dX10_setPath_45 : decode cX10_setPath 45 = .ok (.invokevirtual 162, 3) := by decide +kernel
theorem dX10_setPath_48 : decode cX10_setPath 48 = .ok (.ifCond .eq 14, 3) := by decide +kernel
theorem dX10_setPath_51 : decode cX10_setPath 51 = .ok (.aload_n 0, 1) := by decide +kernel
theorem dX10_setPath_52 : decode cX10_setPath 52 = .ok (.iconst 1, 1) := by decide +kernel
theorem dX10_setPath_53 : decode cX10_setPath 53 = .ok (.iload_n 2, 1) := by decide +kernel
theorem dX10_setPath_54 : decode cX10_setPath 54 = .ok (.iload_n 3, 1) := by decide +kernel
theorem dX10_setPath_55 : decode cX10_setPath 55 = .ok (.bipush (-4), 2) := by decide +kernel
theorem dX10_setPath_57 : decode cX10_setPath 57 = .ok (.bipush (-4), 2) := by decide +kernel
theorem dX10_setPath_59 : decode cX10_setPath 59 = .ok (.invokevirtual 165, 3) := by decide +kernel
theorem dX10_setPath_62 : decode cX10_setPath 62 = .ok (.iconst 0, 1) := by decide +kernel
theorem dX10_setPath_63 : decode cX10_setPath 63 = .ok (.istore 4, 2) := by decide +kernel
theorem dX10_setPath_65 : decode cX10_setPath 65 = .ok (.iload 4, 2) := by decide +kernel
theorem dX10_setPath_67 : decode cX10_setPath 67 = .ok (.aload_n 0, 1) := by decide +kernel
theorem dX10_setPath_68 : decode cX10_setPath 68 = .ok (.getfield 16, 3) := by decide +kernel
theorem dX10_setPath_71 : decode cX10_setPath 71 = .ok (.iconst 1, 1) := by decide +kernel
theorem dX10_setPath_72 : decode cX10_setPath 72 = .ok (.iaload, 1) := by decide +kernel
theorem dX10_setPath_73 : decode cX10_setPath 73 = .ok (.if_icmp .ge 40, 3) := by decide +kernel
theorem dX10_setPath_76 : decode cX10_setPath 76 = .ok (.aload_n 0, 1) := by decide +kernel
theorem dX10_setPath_77 : decode cX10_setPath 77 = .ok (.iload_n 2, 1) := by decide +kernel
theorem dX10_setPath_78 : decode cX10_setPath 78 = .ok (.iload 4, 2) := by decide +kernel
theorem dX10_setPath_80 : decode cX10_setPath 80 = .ok (.invokevirtual 162, 3) := by decide +kernel
theorem dX10_setPath_83 : decode cX10_setPath 83 = .ok (.ifCond .eq 24, 3) := by decide +kernel
theorem dX10_setPath_86 : decode cX10_setPath 86 = .ok (.aload_n 0, 1) := by decide +kernel
theorem dX10_setPath_87 : decode cX10_setPath 87 = .ok (.iload 4, 2) := by decide +kernel
theorem dX10_setPath_89 : decode cX10_setPath 89 = .ok (.iload_n 3, 1) := by decide +kernel
theorem dX10_setPath_90 : decode cX10_setPath 90 = .ok (.invokevirtual 162, 3) := by decide +kernel
theorem dX10_setPath_93 : decode cX10_setPath 93 = .ok (.ifCond .eq 14, 3) := by decide +kernel
theorem dX10_setPath_96 : decode cX10_setPath 96 = .ok (.aload_n 0, 1) := by decide +kernel
theorem dX10_setPath_97 : decode cX10_setPath 97 = .ok (.iconst 2, 1) := by decide +kernel
theorem dX10_setPath_98 : decode cX10_setPath 98 = .ok (.iload_n 2, 1) := by decide +kernel
theorem dX10_setPath_99 : decode cX10_setPath 99 = .ok (.iload 4, 2) := by decide +kernel
theorem dX10_setPath_101 : decode cX10_setPath 101 = .ok (.iload_n 3, 1) := by decide +kernel
theorem dX10_setPath_102 : decode cX10_setPath 102 = .ok (.bipush (-4), 2) := by decide +kernel
theorem dX10_setPath_104 : decode cX10_setPath 104 = .ok (.invokevirtual 165, 3) := by decide +kernel
theorem dX10_setPath_107 : decode cX10_setPath 107 = .ok (.iinc 4 1, 3) := by decide +kernel
theorem dX10_setPath_110 : decode cX10_setPath 110 = .ok (.goto (-45), 3) := by decide +kernel
theorem dX10_setPath_113 : decode cX10_setPath 113 = .ok (.iconst 0, 1) := by decide +kernel
theorem dX10_setPath_114 : decode cX10_setPath 114 = .ok (.istore 4, 2) := by decide +kernel
theorem dX10_setPath_116 : decode cX10_setPath 116 = .ok (.iload 4, 2) := by decide +kernel
theorem dX10_setPath_118 : decode cX10_setPath 118 = .ok (.aload_n 0, 1) := by decide +kernel
theorem dX10_setPath_119 : decode cX10_setPath 119 = .ok (.getfield 16, 3) := by decide +kernel
theorem dX10_setPath_122 : decode cX10_setPath 122 = .ok (.iconst 1, 1) := by decide +kernel
theorem dX10_setPath_123 : decode cX10_setPath 123 = .ok (.iaload, 1) := by decide +kernel
theorem dX10_setPath_124 : decode cX10_setPath 124 = .ok (.if_icmp .ge 83, 3) := by decide +kernel
theorem dX10_setPath_127 : decode cX10_setPath 127 = .ok (.iconst 0, 1) := by decide +kernel
theorem dX10_setPath_128 : decode cX10_setPath 128 = .ok (.istore 5, 2) := by decide +kernel
theorem dX10_setPath_130 : decode cX10_setPath 130 = .ok (.iload 5, 2) := by decide +kernel
theorem dX10_setPath_132 : decode cX10_setPath 132 = .ok (.aload_n 0, 1) := by decide +kernel
theorem dX10_setPath_133 : decode cX10_setPath 133 = .ok (.getfield 16, 3) := by decide +kernel
theorem dX10_setPath_136 : decode cX10_setPath 136 = .ok (.iconst 1, 1) := by decide +kernel
theorem dX10_setPath_137 : decode cX10_setPath 137 = .ok (.iaload, 1) := by decide +kernel
theorem dX10_setPath_138 : decode cX10_setPath 138 = .ok (.if_icmp .ge 63, 3) := by decide +kernel
theorem dX10_setPath_141 : decode cX10_setPath 141 = .ok (.iload 4, 2) := by decide +kernel
theorem dX10_setPath_143 : decode cX10_setPath 143 = .ok (.iload_n 3, 1) := by decide +kernel
theorem dX10_setPath_144 : decode cX10_setPath 144 = .ok (.if_icmp .eq 51, 3) := by decide +kernel
theorem dX10_setPath_147 : decode cX10_setPath 147 = .ok (.iload 5, 2) := by decide +kernel
theorem dX10_setPath_149 : decode cX10_setPath 149 = .ok (.iload_n 2, 1) := by decide +kernel
theorem dX10_setPath_150 : decode cX10_setPath 150 = .ok (.if_icmp .eq 45, 3) := by decide +kernel
theorem dX10_setPath_153 : decode cX10_setPath 153 = .ok (.aload_n 0, 1) := by decide +kernel
theorem dX10_setPath_154 : decode cX10_setPath 154 = .ok (.iload_n 2, 1) := by decide +kernel
theorem dX10_setPath_155 : decode cX10_setPath 155 = .ok (.iload 4, 2) := by decide +kernel
theorem dX10_setPath_157 : decode cX10_setPath 157 = .ok (.invokevirtual 162, 3) := by decide +kernel
theorem dX10_setPath_160 : decode cX10_setPath 160 = .ok (.ifCond .eq 35, 3) := by decide +kernel
theorem dX10_setPath_163 : decode cX10_setPath 163 = .ok (.aload_n 0, 1) := by decide +kernel
theorem dX10_setPath_164 : decode cX10_setPath 164 = .ok (.iload 4, 2) := by decide +kernel
theorem dX10_setPath_166 : decode cX10_setPath 166 = .ok (.iload 5, 2) := by decide +kernel
theorem dX10_setPath_168 : decode cX10_setPath 168 = .ok (.invokevirtual 162, 3) := by decide +kernel
theorem dX10_setPath_171 : decode cX10_setPath 171 = .ok (.ifCond .eq 24, 3) := by decide +kernel
theorem dX10_setPath_174 : decode cX10_setPath 174 = .ok (.aload_n 0, 1) := by decide +kernel
theorem dX10_setPath_175 : decode cX10_setPath 175 = .ok (.iload 5, 2) := by decide +kernel
theorem dX10_setPath_177 : decode cX10_setPath 177 = .ok (.iload_n 3, 1) := by decide +kernel
theorem dX10_setPath_178 : decode cX10_setPath 178 = .ok (.invokevirtual 162, 3) := by decide +kernel
theorem dX10_setPath_181 : decode cX10_setPath 181 = .ok (.ifCond .eq 14, 3) := by decide +kernel
theorem dX10_setPath_184 : decode cX10_setPath 184 = .ok (.aload_n 0, 1) := by decide +kernel
theorem dX10_setPath_185 : decode cX10_setPath 185 = .ok (.iconst 3, 1) := by decide +kernel
theorem dX10_setPath_186 : decode cX10_setPath 186 = .ok (.iload_n 2, 1) := by decide +kernel
theorem dX10_setPath_187 : decode cX10_setPath 187 = .ok (.iload 4, 2) := by decide +kernel
theorem dX10_setPath_189 : decode cX10_setPath 189 = .ok (.iload 5, 2) := by decide +kernel
theorem dX10_setPath_191 : decode cX10_setPath 191 = .ok (.iload_n 3, 1) := by decide +kernel
theorem dX10_setPath_192 : decode cX10_setPath 192 = .ok (.invokevirtual 165, 3) := by decide +kernel
theorem dX10_setPath_195 : decode cX10_setPath 195 = .ok (.iinc 5 1, 3) := by decide +kernel
theorem dX10_setPath_198 : decode cX10_setPath 198 = .ok (.goto (-68), 3) := by decide +kernel
theorem dX10_setPath_201 : decode cX10_setPath 201 = .ok (.iinc 4 1, 3) := by decide +kernel
theorem dX10_setPath_204 : decode cX10_setPath 204 = .ok (.goto (-88), 3) := by decide +kernel
theorem dX10_setPath_207 : decode cX10_setPath 207 = .ok (.return_, 1) := by decide +kernel
theorem dX10_told_0 : decode cX10_told 0 = .ok (.aload_n 0, 1) := by decide +kernel
theorem dX10_told_1 : decode cX10_told 1 = .ok (.iconst 0, 1) := by decide +kernel
theorem dX10_told_2 : decode cX10_told 2 = .ok (.iload_n 1, 1) := by decide +kernel
theorem dX10_told_3 : decode cX10_told 3 = .ok (.invokevirtual 104, 3) := by decide +kernel
theorem dX10_told_6 : decode cX10_told 6 = .ok (.ifCond .eq 8, 3) := by decide +kernel
theorem dX10_told_9 : decode cX10_told 9 = .ok (.iload_n 2, 1) := by decide +kernel
theorem dX10_told_10 : decode cX10_told 10 = .ok (.iconst (-1), 1) := by decide +kernel
theorem dX10_told_11 : decode cX10_told 11 = .ok (.if_icmp .ge 5, 3) := by decide +kernel
theorem dX10_told_14 : decode cX10_told 14 = .ok (.iconst (-1), 1) := by decide +kernel
theorem dX10_told_15 : decode cX10_told 15 = .ok (.ireturn, 1) := by decide +kernel
theorem dX10_told_16 : decode cX10_told 16 = .ok (.aload_n 0, 1) := by decide +kernel
theorem dX10_told_17 : decode cX10_told 17 = .ok (.invokevirtual 156, 3) := by decide +kernel
theorem dX10_told_20 : decode cX10_told 20 = .ok (.aload_n 0, 1) := by decide +kernel
theorem dX10_told_21 : decode cX10_told 21 = .ok (.iload_n 1, 1) := by decide +kernel
theorem dX10_told_22 : decode cX10_told 22 = .ok (.invokevirtual 169, 3) := by decide +kernel
theorem dX10_told_25 : decode cX10_told 25 = .ok (.aload_n 0, 1) := by decide +kernel
theorem dX10_told_26 : decode cX10_told 26 = .ok (.getfield 159, 3) := by decide +kernel
theorem dX10_told_29 : decode cX10_told 29 = .ok (.ifCond .ne 6, 3) := by decide +kernel
theorem dX10_told_32 : decode cX10_told 32 = .ok (.bipush (-4), 2) := by decide +kernel
theorem dX10_told_34 : decode cX10_told 34 = .ok (.ireturn, 1) := by decide +kernel
theorem dX10_told_35 : decode cX10_told 35 = .ok (.iload_n 2, 1) := by decide +kernel
theorem dX10_told_36 : decode cX10_told 36 = .ok (.iconst (-1), 1) := by decide +kernel
theorem dX10_told_37 : decode cX10_told 37 = .ok (.if_icmp .ne 10, 3) := by decide +kernel
theorem dX10_told_40 : decode cX10_told 40 = .ok (.aload_n 0, 1) := by decide +kernel
theorem dX10_told_41 : decode cX10_told 41 = .ok (.getfield 159, 3) := by decide +kernel
theorem dX10_told_44 : decode cX10_told 44 = .ok (.goto 22, 3) := by decide +kernel
theorem dX10_told_47 : decode cX10_told 47 = .ok (.iload_n 2, 1) := by decide +kernel
theorem dX10_told_48 : decode cX10_told 48 = .ok (.aload_n 0, 1) := by decide +kernel
theorem dX10_told_49 : decode cX10_told 49 = .ok (.getfield 159, 3) := by decide +kernel
theorem dX10_told_52 : decode cX10_told 52 = .ok (.if_icmp .gt 12, 3) := by decide +kernel
theorem dX10_told_55 : decode cX10_told 55 = .ok (.aload_n 0, 1) := by decide +kernel
theorem dX10_told_56 : decode cX10_told 56 = .ok (.getfield 62, 3) := by decide +kernel
theorem dX10_told_59 : decode cX10_told 59 = .ok (.iload_n 2, 1) := by decide +kernel
theorem dX10_told_60 : decode cX10_told 60 = .ok (.iaload, 1) := by decide +kernel
theorem dX10_told_61 : decode cX10_told 61 = .ok (.goto 5, 3) := by decide +kernel
theorem dX10_told_64 : decode cX10_told 64 = .ok (.bipush (-4), 2) := by decide +kernel
theorem dX10_told_66 : decode cX10_told 66 = .ok (.ireturn, 1) := by decide +kernel
theorem dX10_nameBy_0 : decode cX10_nameBy 0 = .ok (.aload_n 0, 1) := by decide +kernel
theorem dX10_nameBy_1 : decode cX10_nameBy 1 = .ok (.getfield 38, 3) := by decide +kernel
theorem dX10_nameBy_4 : decode cX10_nameBy 4 = .ok (.bipush 8, 2) := by decide +kernel
theorem dX10_nameBy_6 : decode cX10_nameBy 6 = .ok (.aload_n 0, 1) := by decide +kernel
theorem dX10_nameBy_7 : decode cX10_nameBy 7 = .ok (.iconst 1, 1) := by decide +kernel
theorem dX10_nameBy_8 : decode cX10_nameBy 8 = .ok (.aload_n 0, 1) := by decide +kernel
theorem dX10_nameBy_9 : decode cX10_nameBy 9 = .ok (.getfield 62, 3) := by decide +kernel
theorem dX10_nameBy_12 : decode cX10_nameBy 12 = .ok (.iconst 0, 1) := by decide +kernel
theorem dX10_nameBy_13 : decode cX10_nameBy 13 = .ok (.iaload, 1) := by decide +kernel
theorem dX10_nameBy_14 : decode cX10_nameBy 14 = .ok (.aload_n 0, 1) := by decide +kernel
theorem dX10_nameBy_15 : decode cX10_nameBy 15 = .ok (.getfield 62, 3) := by decide +kernel
theorem dX10_nameBy_18 : decode cX10_nameBy 18 = .ok (.iconst 1, 1) := by decide +kernel
theorem dX10_nameBy_19 : decode cX10_nameBy 19 = .ok (.iaload, 1) := by decide +kernel
theorem dX10_nameBy_20 : decode cX10_nameBy 20 = .ok (.invokevirtual 121, 3) := by decide +kernel
theorem dX10_nameBy_23 : decode cX10_nameBy 23 = .ok (.iadd, 1) := by decide +kernel
theorem dX10_nameBy_24 : decode cX10_nameBy 24 = .ok (.iaload, 1) := by decide +kernel
theorem dX10_nameBy_25 : decode cX10_nameBy 25 = .ok (.istore_n 1, 1) := by decide +kernel
theorem dX10_nameBy_26 : decode cX10_nameBy 26 = .ok (.iconst 1, 1) := by decide +kernel
theorem dX10_nameBy_27 : decode cX10_nameBy 27 = .ok (.istore_n 2, 1) := by decide +kernel
theorem dX10_nameBy_28 : decode cX10_nameBy 28 = .ok (.iload_n 2, 1) := by decide +kernel
theorem dX10_nameBy_29 : decode cX10_nameBy 29 = .ok (.aload_n 0, 1) := by decide +kernel
theorem dX10_nameBy_30 : decode cX10_nameBy 30 = .ok (.getfield 159, 3) := by decide +kernel
theorem dX10_nameBy_33 : decode cX10_nameBy 33 = .ok (.if_icmp .ge 46, 3) := by decide +kernel
theorem dX10_nameBy_36 : decode cX10_nameBy 36 = .ok (.aload_n 0, 1) := by decide +kernel
theorem dX10_nameBy_37 : decode cX10_nameBy 37 = .ok (.getfield 38, 3) := by decide +kernel
theorem dX10_nameBy_40 : decode cX10_nameBy 40 = .ok (.bipush 8, 2) := by decide +kernel
theorem dX10_nameBy_42 : decode cX10_nameBy 42 = .ok (.aload_n 0, 1) := by decide +kernel
theorem dX10_nameBy_43 : decode cX10_nameBy 43 = .ok (.iconst 1, 1) := by decide +kernel
theorem dX10_nameBy_44 : decode cX10_nameBy 44 = .ok (.aload_n 0, 1) := by decide +kernel
theorem dX10_nameBy_45 : decode cX10_nameBy 45 = .ok (.getfield 62, 3) := by decide +kernel
theorem dX10_nameBy_48 : decode cX10_nameBy 48 = .ok (.iload_n 2, 1) := by decide +kernel
theorem dX10_nameBy_49 : decode cX10_nameBy 49 = .ok (.iaload, 1) := by decide +kernel
theorem dX10_nameBy_50 : decode cX10_nameBy 50 = .ok (.aload_n 0, 1) := by decide +kernel
theorem dX10_nameBy_51 : decode cX10_nameBy 51 = .ok (.getfield 62, 3) := by decide +kernel
theorem dX10_nameBy_54 : decode cX10_nameBy 54 = .ok (.iload_n 2, 1) := by decide +kernel
theorem dX10_nameBy_55 : decode cX10_nameBy 55 = .ok (.iconst 1, 1) := by decide +kernel
theorem dX10_nameBy_56 : decode cX10_nameBy 56 = .ok (.iadd, 1) := by decide +kernel
theorem dX10_nameBy_57 : decode cX10_nameBy 57 = .ok (.iaload, 1) := by decide +kernel
theorem dX10_nameBy_58 : decode cX10_nameBy 58 = .ok (.invokevirtual 121, 3) := by decide +kernel
theorem dX10_nameBy_61 : decode cX10_nameBy 61 = .ok (.iadd, 1) := by decide +kernel
theorem dX10_nameBy_62 : decode cX10_nameBy 62 = .ok (.iaload, 1) := by decide +kernel
theorem dX10_nameBy_63 : decode cX10_nameBy 63 = .ok (.iload_n 1, 1) := by decide +kernel
theorem dX10_nameBy_64 : decode cX10_nameBy 64 = .ok (.if_icmp .ne 7, 3) := by decide +kernel
theorem dX10_nameBy_67 : decode cX10_nameBy 67 = .ok (.iload_n 1, 1) := by decide +kernel
theorem dX10_nameBy_68 : decode cX10_nameBy 68 = .ok (.goto 4, 3) := by decide +kernel
theorem dX10_nameBy_71 : decode cX10_nameBy 71 = .ok (.iconst 0, 1) := by decide +kernel
theorem dX10_nameBy_72 : decode cX10_nameBy 72 = .ok (.istore_n 1, 1) := by decide +kernel
theorem dX10_nameBy_73 : decode cX10_nameBy 73 = .ok (.iinc 2 1, 3) := by decide +kernel
theorem dX10_nameBy_76 : decode cX10_nameBy 76 = .ok (.goto (-48), 3) := by decide +kernel
theorem dX10_nameBy_79 : decode cX10_nameBy 79 = .ok (.iload_n 1, 1) := by decide +kernel
theorem dX10_nameBy_80 : decode cX10_nameBy 80 = .ok (.ireturn, 1) := by decide +kernel
theorem dX10_named_0 : decode cX10_named 0 = .ok (.aload_n 0, 1) := by decide +kernel
theorem dX10_named_1 : decode cX10_named 1 = .ok (.iconst 0, 1) := by decide +kernel
theorem dX10_named_2 : decode cX10_named 2 = .ok (.iload_n 1, 1) := by decide +kernel
theorem dX10_named_3 : decode cX10_named 3 = .ok (.invokevirtual 104, 3) := by decide +kernel
theorem dX10_named_6 : decode cX10_named 6 = .ok (.ifCond .ne 5, 3) := by decide +kernel
theorem dX10_named_9 : decode cX10_named 9 = .ok (.iconst (-1), 1) := by decide +kernel
theorem dX10_named_10 : decode cX10_named 10 = .ok (.ireturn, 1) := by decide +kernel
theorem dX10_named_11 : decode cX10_named 11 = .ok (.aload_n 0, 1) := by decide +kernel
theorem dX10_named_12 : decode cX10_named 12 = .ok (.invokevirtual 156, 3) := by decide +kernel
theorem dX10_named_15 : decode cX10_named 15 = .ok (.aload_n 0, 1) := by decide +kernel
theorem dX10_named_16 : decode cX10_named 16 = .ok (.iload_n 1, 1) := by decide +kernel
theorem dX10_named_17 : decode cX10_named 17 = .ok (.invokevirtual 169, 3) := by decide +kernel
theorem dX10_named_20 : decode cX10_named 20 = .ok (.aload_n 0, 1) := by decide +kernel
theorem dX10_named_21 : decode cX10_named 21 = .ok (.getfield 38, 3) := by decide +kernel
theorem dX10_named_24 : decode cX10_named 24 = .ok (.iload_n 1, 1) := by decide +kernel
theorem dX10_named_25 : decode cX10_named 25 = .ok (.iaload, 1) := by decide +kernel
theorem dX10_named_26 : decode cX10_named 26 = .ok (.ifCond .ne 10, 3) := by decide +kernel
theorem dX10_named_29 : decode cX10_named 29 = .ok (.aload_n 0, 1) := by decide +kernel
theorem dX10_named_30 : decode cX10_named 30 = .ok (.getfield 159, 3) := by decide +kernel
theorem dX10_named_33 : decode cX10_named 33 = .ok (.ifCond .ne 12, 3) := by decide +kernel
theorem dX10_named_36 : decode cX10_named 36 = .ok (.aload_n 0, 1) := by decide +kernel
theorem dX10_named_37 : decode cX10_named 37 = .ok (.getfield 38, 3) := by decide +kernel
theorem dX10_named_40 : decode cX10_named 40 = .ok (.iload_n 1, 1) := by decide +kernel
theorem dX10_named_41 : decode cX10_named 41 = .ok (.iaload, 1) := by decide +kernel
theorem dX10_named_42 : decode cX10_named 42 = .ok (.goto 7, 3) := by decide +kernel
theorem dX10_named_45 : decode cX10_named 45 = .ok (.aload_n 0, 1) := by decide +kernel
theorem dX10_named_46 : decode cX10_named 46 = .ok (.invokevirtual 173, 3) := by decide +kernel
theorem dX10_named_49 : decode cX10_named 49 = .ok (.ireturn, 1) := by decide +kernel
theorem dX10_area_0 : decode cX10_area 0 = .ok (.aload_n 0, 1) := by decide +kernel
theorem dX10_area_1 : decode cX10_area 1 = .ok (.getfield 26, 3) := by decide +kernel
theorem dX10_area_4 : decode cX10_area 4 = .ok (.iload_n 2, 1) := by decide +kernel
theorem dX10_area_5 : decode cX10_area 5 = .ok (.iaload, 1) := by decide +kernel
theorem dX10_area_6 : decode cX10_area 6 = .ok (.aload_n 0, 1) := by decide +kernel
theorem dX10_area_7 : decode cX10_area 7 = .ok (.getfield 26, 3) := by decide +kernel
theorem dX10_area_10 : decode cX10_area 10 = .ok (.iload_n 1, 1) := by decide +kernel
theorem dX10_area_11 : decode cX10_area 11 = .ok (.iaload, 1) := by decide +kernel
theorem dX10_area_12 : decode cX10_area 12 = .ok (.isub, 1) := by decide +kernel
theorem dX10_area_13 : decode cX10_area 13 = .ok (.aload_n 0, 1) := by decide +kernel
theorem dX10_area_14 : decode cX10_area 14 = .ok (.getfield 29, 3) := by decide +kernel
theorem dX10_area_17 : decode cX10_area 17 = .ok (.iload_n 3, 1) := by decide +kernel
theorem dX10_area_18 : decode cX10_area 18 = .ok (.iaload, 1) := by decide +kernel
theorem dX10_area_19 : decode cX10_area 19 = .ok (.aload_n 0, 1) := by decide +kernel
theorem dX10_area_20 : decode cX10_area 20 = .ok (.getfield 29, 3) := by decide +kernel
theorem dX10_area_23 : decode cX10_area 23 = .ok (.iload_n 1, 1) := by decide +kernel
theorem dX10_area_24 : decode cX10_area 24 = .ok (.iaload, 1) := by decide +kernel
theorem dX10_area_25 : decode cX10_area 25 = .ok (.isub, 1) := by decide +kernel
theorem dX10_area_26 : decode cX10_area 26 = .ok (.imul, 1) := by decide +kernel
theorem dX10_area_27 : decode cX10_area 27 = .ok (.aload_n 0, 1) := by decide +kernel
theorem dX10_area_28 : decode cX10_area 28 = .ok (.getfield 26, 3) := by decide +kernel
theorem dX10_area_31 : decode cX10_area 31 = .ok (.iload_n 3, 1) := by decide +kernel
theorem dX10_area_32 : decode cX10_area 32 = .ok (.iaload, 1) := by decide +kernel
theorem dX10_area_33 : decode cX10_area 33 = .ok (.aload_n 0, 1) := by decide +kernel
theorem dX10_area_34 : decode cX10_area 34 = .ok (.getfield 26, 3) := by decide +kernel
theorem dX10_area_37 : decode cX10_area 37 = .ok (.iload_n 1, 1) := by decide +kernel
theorem dX10_area_38 : decode cX10_area 38 = .ok (.iaload, 1) := by decide +kernel
theorem dX10_area_39 : decode cX10_area 39 = .ok (.isub, 1) := by decide +kernel
theorem dX10_area_40 : decode cX10_area 40 = .ok (.aload_n 0, 1) := by decide +kernel
theorem dX10_area_41 : decode cX10_area 41 = .ok (.getfield 29, 3) := by decide +kernel
theorem dX10_area_44 : decode cX10_area 44 = .ok (.iload_n 2, 1) := by decide +kernel
theorem dX10_area_45 : decode cX10_area 45 = .ok (.iaload, 1) := by decide +kernel
theorem dX10_area_46 : decode cX10_area 46 = .ok (.aload_n 0, 1) := by decide +kernel
theorem dX10_area_47 : decode cX10_area 47 = .ok (.getfield 29, 3) := by decide +kernel
theorem dX10_area_50 : decode cX10_area 50 = .ok (.iload_n 1, 1) := by decide +kernel
theorem dX10_area_51 : decode cX10_area 51 = .ok (.iaload, 1) := by decide +kernel
theorem dX10_area_52 : decode cX10_area 52 = .ok (.isub, 1) := by decide +kernel
theorem dX10_area_53 : decode cX10_area 53 = .ok (.imul, 1) := by decide +kernel
theorem dX10_area_54 : decode cX10_area 54 = .ok (.isub, 1) := by decide +kernel
theorem dX10_area_55 : decode cX10_area 55 = .ok (.ireturn, 1) := by decide +kernel
theorem dX10_far_0 : decode cX10_far 0 = .ok (.iload_n 0, 1) := by decide +kernel
theorem dX10_far_1 : decode cX10_far 1 = .ok (.ifCond .ge 8, 3) := by decide +kernel
theorem dX10_far_4 : decode cX10_far 4 = .ok (.iload_n 0, 1) := by decide +kernel
theorem dX10_far_5 : decode cX10_far 5 = .ok (.ineg, 1) := by decide +kernel
theorem dX10_far_6 : decode cX10_far 6 = .ok (.goto 4, 3) := by decide +kernel
theorem dX10_far_9 : decode cX10_far 9 = .ok (.iload_n 0, 1) := by decide +kernel
theorem dX10_far_10 : decode cX10_far 10 = .ok (.ireturn, 1) := by decide +kernel
theorem dX10_isWithin_0 : decode cX10_isWithin 0 = .ok (.aload_n 0, 1) := by decide +kernel
theorem dX10_isWithin_1 : decode cX10_isWithin 1 = .ok (.iload_n 1, 1) := by decide +kernel
theorem dX10_isWithin_2 : decode cX10_isWithin 2 = .ok (.iload_n 3, 1) := by decide +kernel
theorem dX10_isWithin_3 : decode cX10_isWithin 3 = .ok (.iload 4, 2) := by decide +kernel
theorem dX10_isWithin_5 : decode cX10_isWithin 5 = .ok (.invokevirtual 177, 3) := by decide +kernel
theorem dX10_isWithin_8 : decode cX10_isWithin 8 = .ok (.invokestatic 180, 3) := by decide +kernel
theorem dX10_isWithin_11 : decode cX10_isWithin 11 = .ok (.aload_n 0, 1) := by decide +kernel
theorem dX10_isWithin_12 : decode cX10_isWithin 12 = .ok (.iload_n 2, 1) := by decide +kernel
theorem dX10_isWithin_13 : decode cX10_isWithin 13 = .ok (.iload_n 1, 1) := by decide +kernel
theorem dX10_isWithin_14 : decode cX10_isWithin 14 = .ok (.iload 4, 2) := by decide +kernel
theorem dX10_isWithin_16 : decode cX10_isWithin 16 = .ok (.invokevirtual 177, 3) := by decide +kernel
theorem dX10_isWithin_19 : decode cX10_isWithin 19 = .ok (.invokestatic 180, 3) := by decide +kernel
theorem dX10_isWithin_22 : decode cX10_isWithin 22 = .ok (.iadd, 1) := by decide +kernel
theorem dX10_isWithin_23 : decode cX10_isWithin 23 = .ok (.aload_n 0, 1) := by decide +kernel
theorem dX10_isWithin_24 : decode cX10_isWithin 24 = .ok (.iload_n 2, 1) := by decide +kernel
theorem dX10_isWithin_25 : decode cX10_isWithin 25 = .ok (.iload_n 3, 1) := by decide +kernel
theorem dX10_isWithin_26 : decode cX10_isWithin 26 = .ok (.iload_n 1, 1) := by decide +kernel
theorem dX10_isWithin_27 : decode cX10_isWithin 27 = .ok (.invokevirtual 177, 3) := by decide +kernel
theorem dX10_isWithin_30 : decode cX10_isWithin 30 = .ok (.invokestatic 180, 3) := by decide +kernel
theorem dX10_isWithin_33 : decode cX10_isWithin 33 = .ok (.iadd, 1) := by decide +kernel
theorem dX10_isWithin_34 : decode cX10_isWithin 34 = .ok (.aload_n 0, 1) := by decide +kernel
theorem dX10_isWithin_35 : decode cX10_isWithin 35 = .ok (.iload_n 2, 1) := by decide +kernel
theorem dX10_isWithin_36 : decode cX10_isWithin 36 = .ok (.iload_n 3, 1) := by decide +kernel
theorem dX10_isWithin_37 : decode cX10_isWithin 37 = .ok (.iload 4, 2) := by decide +kernel
theorem dX10_isWithin_39 : decode cX10_isWithin 39 = .ok (.invokevirtual 177, 3) := by decide +kernel
theorem dX10_isWithin_42 : decode cX10_isWithin 42 = .ok (.invokestatic 180, 3) := by decide +kernel
theorem dX10_isWithin_45 : decode cX10_isWithin 45 = .ok (.if_icmp .ne 7, 3) := by decide +kernel
theorem dX10_isWithin_48 : decode cX10_isWithin 48 = .ok (.iconst 1, 1) := by decide +kernel
theorem dX10_isWithin_49 : decode cX10_isWithin 49 = .ok (.goto 4, 3) := by decide +kernel
theorem dX10_isWithin_52 : decode cX10_isWithin 52 = .ok (.iconst 0, 1) := by decide +kernel
theorem dX10_isWithin_53 : decode cX10_isWithin 53 = .ok (.ireturn, 1) := by decide +kernel
theorem dX10_isMatched_0 : decode cX10_isMatched 0 = .ok (.aload_n 0, 1) := by decide +kernel
theorem dX10_isMatched_1 : decode cX10_isMatched 1 = .ok (.getfield 56, 3) := by decide +kernel
theorem dX10_isMatched_4 : decode cX10_isMatched 4 = .ok (.iload_n 1, 1) := by decide +kernel
theorem dX10_isMatched_5 : decode cX10_isMatched 5 = .ok (.iaload, 1) := by decide +kernel
theorem dX10_isMatched_6 : decode cX10_isMatched 6 = .ok (.bipush (-4), 2) := by decide +kernel
theorem dX10_isMatched_8 : decode cX10_isMatched 8 = .ok (.if_icmp .eq 7, 3) := by decide +kernel
theorem dX10_isMatched_11 : decode cX10_isMatched 11 = .ok (.iconst 1, 1) := by decide +kernel
theorem dX10_isMatched_12 : decode cX10_isMatched 12 = .ok (.goto 4, 3) := by decide +kernel
theorem dX10_isMatched_15 : decode cX10_isMatched 15 = .ok (.iconst 0, 1) := by decide +kernel
theorem dX10_isMatched_16 : decode cX10_isMatched 16 = .ok (.ireturn, 1) := by decide +kernel
theorem dX10_comesTo_0 : decode cX10_comesTo 0 = .ok (.iload_n 1, 1) := by decide +kernel
theorem dX10_comesTo_1 : decode cX10_comesTo 1 = .ok (.invokestatic 180, 3) := by decide +kernel
theorem dX10_comesTo_4 : decode cX10_comesTo 4 = .ok (.istore_n 3, 1) := by decide +kernel
theorem dX10_comesTo_5 : decode cX10_comesTo 5 = .ok (.iload_n 2, 1) := by decide +kernel
theorem dX10_comesTo_6 : decode cX10_comesTo 6 = .ok (.istore 4, 2) := by decide +kernel
theorem dX10_comesTo_8 : decode cX10_comesTo 8 = .ok (.iload 4, 2) := by decide +kernel
theorem dX10_comesTo_10 : decode cX10_comesTo 10 = .ok (.ifCond .eq 19, 3) := by decide +kernel
theorem dX10_comesTo_13 : decode cX10_comesTo 13 = .ok (.iload_n 3, 1) := by decide +kernel
theorem dX10_comesTo_14 : decode cX10_comesTo 14 = .ok (.iload 4, 2) := by decide +kernel
theorem dX10_comesTo_16 : decode cX10_comesTo 16 = .ok (.irem, 1) := by decide +kernel
theorem dX10_comesTo_17 : decode cX10_comesTo 17 = .ok (.istore 5, 2) := by decide +kernel
theorem dX10_comesTo_19 : decode cX10_comesTo 19 = .ok (.iload 4, 2) := by decide +kernel
theorem dX10_comesTo_21 : decode cX10_comesTo 21 = .ok (.istore_n 3, 1) := by decide +kernel
theorem dX10_comesTo_22 : decode cX10_comesTo 22 = .ok (.iload 5, 2) := by decide +kernel
theorem dX10_comesTo_24 : decode cX10_comesTo 24 = .ok (.istore 4, 2) := by decide +kernel
theorem dX10_comesTo_26 : decode cX10_comesTo 26 = .ok (.goto (-18), 3) := by decide +kernel
theorem dX10_comesTo_29 : decode cX10_comesTo 29 = .ok (.aload_n 0, 1) := by decide +kernel
theorem dX10_comesTo_30 : decode cX10_comesTo 30 = .ok (.iload_n 1, 1) := by decide +kernel
theorem dX10_comesTo_31 : decode cX10_comesTo 31 = .ok (.iload_n 3, 1) := by decide +kernel
theorem dX10_comesTo_32 : decode cX10_comesTo 32 = .ok (.idiv, 1) := by decide +kernel
theorem dX10_comesTo_33 : decode cX10_comesTo 33 = .ok (.putfield 183, 3) := by decide +kernel
theorem dX10_comesTo_36 : decode cX10_comesTo 36 = .ok (.aload_n 0, 1) := by decide +kernel
theorem dX10_comesTo_37 : decode cX10_comesTo 37 = .ok (.iload_n 2, 1) := by decide +kernel
theorem dX10_comesTo_38 : decode cX10_comesTo 38 = .ok (.iload_n 3, 1) := by decide +kernel
theorem dX10_comesTo_39 : decode cX10_comesTo 39 = .ok (.idiv, 1) := by decide +kernel
theorem dX10_comesTo_40 : decode cX10_comesTo 40 = .ok (.putfield 186, 3) := by decide +kernel
theorem dX10_comesTo_43 : decode cX10_comesTo 43 = .ok (.return_, 1) := by decide +kernel
theorem dX10_triangleOf_0 : decode cX10_triangleOf 0 = .ok (.bipush (-4), 2) := by decide +kernel
theorem dX10_triangleOf_2 : decode cX10_triangleOf 2 = .ok (.istore_n 2, 1) := by decide +kernel
theorem dX10_triangleOf_3 : decode cX10_triangleOf 3 = .ok (.ldc 189, 2) := by decide +kernel
theorem dX10_triangleOf_5 : decode cX10_triangleOf 5 = .ok (.istore_n 3, 1) := by decide +kernel
theorem dX10_triangleOf_6 : decode cX10_triangleOf 6 = .ok (.iconst 0, 1) := by decide +kernel
theorem dX10_triangleOf_7 : decode cX10_triangleOf 7 = .ok (.istore 4, 2) := by decide +kernel
theorem dX10_triangleOf_9 : decode cX10_triangleOf 9 = .ok (.iload 4, 2) := by decide +kernel
theorem dX10_triangleOf_11 : decode cX10_triangleOf 11 = .ok (.sipush 512, 3) := by decide +kernel
theorem dX10_triangleOf_14 : decode cX10_triangleOf 14 = .ok (.if_icmp .ge 131, 3) := by decide +kernel
theorem dX10_triangleOf_17 : decode cX10_triangleOf 17 = .ok (.iload 4, 2) := by decide +kernel
theorem dX10_triangleOf_19 : decode cX10_triangleOf 19 = .ok (.bipush 64, 2) := by decide +kernel
theorem dX10_triangleOf_21 : decode cX10_triangleOf 21 = .ok (.idiv, 1) := by decide +kernel
theorem dX10_triangleOf_22 : decode cX10_triangleOf 22 = .ok (.istore 5, 2) := by decide +kernel
theorem dX10_triangleOf_24 : decode cX10_triangleOf 24 = .ok (.iload 4, 2) := by decide +kernel
theorem dX10_triangleOf_26 : decode cX10_triangleOf 26 = .ok (.bipush 8, 2) := by decide +kernel
theorem dX10_triangleOf_28 : decode cX10_triangleOf 28 = .ok (.idiv, 1) := by decide +kernel
theorem dX10_triangleOf_29 : decode cX10_triangleOf 29 = .ok (.bipush 8, 2) := by decide +kernel
theorem dX10_triangleOf_31 : decode cX10_triangleOf 31 = .ok (.irem, 1) := by decide +kernel
theorem dX10_triangleOf_32 : decode cX10_triangleOf 32 = .ok (.istore 6, 2) := by decide +kernel
theorem dX10_triangleOf_34 : decode cX10_triangleOf 34 = .ok (.iload 4, 2) := by decide +kernel
theorem dX10_triangleOf_36 : decode cX10_triangleOf 36 = .ok (.bipush 8, 2) := by decide +kernel
theorem dX10_triangleOf_38 : decode cX10_triangleOf 38 = .ok (.irem, 1) := by decide +kernel
theorem dX10_triangleOf_39 : decode cX10_triangleOf 39 = .ok (.istore 7, 2) := by decide +kernel
theorem dX10_triangleOf_41 : decode cX10_triangleOf 41 = .ok (.iload 5, 2) := by decide +kernel
theorem dX10_triangleOf_43 : decode cX10_triangleOf 43 = .ok (.iload 6, 2) := by decide +kernel
theorem dX10_triangleOf_45 : decode cX10_triangleOf 45 = .ok (.if_icmp .ge 94, 3) := by decide +kernel
theorem dX10_triangleOf_48 : decode cX10_triangleOf 48 = .ok (.iload 6, 2) := by decide +kernel
theorem dX10_triangleOf_50 : decode cX10_triangleOf 50 = .ok (.iload 7, 2) := by decide +kernel
theorem dX10_triangleOf_52 : decode cX10_triangleOf 52 = .ok (.if_icmp .ge 87, 3) := by decide +kernel
theorem dX10_triangleOf_55 : decode cX10_triangleOf 55 = .ok (.iload 7, 2) := by decide +kernel
theorem dX10_triangleOf_57 : decode cX10_triangleOf 57 = .ok (.aload_n 0, 1) := by decide +kernel
theorem dX10_triangleOf_58 : decode cX10_triangleOf 58 = .ok (.getfield 16, 3) := by decide +kernel
theorem dX10_triangleOf_61 : decode cX10_triangleOf 61 = .ok (.iconst 0, 1) := by decide +kernel
theorem dX10_triangleOf_62 : decode cX10_triangleOf 62 = .ok (.iaload, 1) := by decide +kernel
theorem dX10_triangleOf_63 : decode cX10_triangleOf 63 = .ok (.if_icmp .ge 76, 3) := by decide +kernel
theorem dX10_triangleOf_66 : decode cX10_triangleOf 66 = .ok (.aload_n 0, 1) := by decide +kernel
theorem dX10_triangleOf_67 : decode cX10_triangleOf 67 = .ok (.iload 5, 2) := by decide +kernel
theorem dX10_triangleOf_69 : decode cX10_triangleOf 69 = .ok (.invokevirtual 190, 3) := by decide +kernel
theorem dX10_triangleOf_72 : decode cX10_triangleOf 72 = .ok (.ifCond .eq 67, 3) := by decide +kernel
theorem dX10_triangleOf_75 : decode cX10_triangleOf 75 = .ok (.aload_n 0, 1) := by decide +kernel
theorem dX10_triangleOf_76 : decode cX10_triangleOf 76 = .ok (.iload 6, 2) := by decide +kernel
theorem dX10_triangleOf_78 : decode cX10_triangleOf 78 = .ok (.invokevirtual 190, 3) := by decide +kernel
theorem dX10_triangleOf_81 : decode cX10_triangleOf 81 = .ok (.ifCond .eq 58, 3) := by decide +kernel
theorem dX10_triangleOf_84 : decode cX10_triangleOf 84 = .ok (.aload_n 0, 1) := by decide +kernel
theorem dX10_triangleOf_85 : decode cX10_triangleOf 85 = .ok (.iload 7, 2) := by decide +kernel
theorem dX10_triangleOf_87 : decode cX10_triangleOf 87 = .ok (.invokevirtual 190, 3) := by decide +kernel
theorem dX10_triangleOf_90 : decode cX10_triangleOf 90 = .ok (.ifCond .eq 49, 3) := by decide +kernel
theorem dX10_triangleOf_93 : decode cX10_triangleOf 93 = .ok (.aload_n 0, 1) := by decide +kernel
theorem dX10_triangleOf_94 : decode cX10_triangleOf 94 = .ok (.iload 5, 2) := by decide +kernel
theorem dX10_triangleOf_96 : decode cX10_triangleOf 96 = .ok (.iload 6, 2) := by decide +kernel
theorem dX10_triangleOf_98 : decode cX10_triangleOf 98 = .ok (.iload 7, 2) := by decide +kernel
theorem dX10_triangleOf_100 : decode cX10_triangleOf 100 = .ok (.invokevirtual 177, 3) := by decide +kernel
theorem dX10_triangleOf_103 : decode cX10_triangleOf 103 = .ok (.invokestatic 180, 3) := by decide +kernel
theorem dX10_triangleOf_106 : decode cX10_triangleOf 106 = .ok (.istore 8, 2) := by decide +kernel
theorem dX10_triangleOf_108 : decode cX10_triangleOf 108 = .ok (.iload 8, 2) := by decide +kernel
theorem dX10_triangleOf_110 : decode cX10_triangleOf 110 = .ok (.ifCond .le 29, 3) := by decide +kernel
theorem dX10_triangleOf_113 : decode cX10_triangleOf 113 = .ok (.iload 8, 2) := by decide +kernel
theorem dX10_triangleOf_115 : decode cX10_triangleOf 115 = .ok (.iload_n 3, 1) := by decide +kernel
theorem dX10_triangleOf_116 : decode cX10_triangleOf 116 = .ok (.if_icmp .ge 23, 3) := by decide +kernel
theorem dX10_triangleOf_119 : decode cX10_triangleOf 119 = .ok (.aload_n 0, 1) := by decide +kernel
theorem dX10_triangleOf_120 : decode cX10_triangleOf 120 = .ok (.iload_n 1, 1) := by decide +kernel
theorem dX10_triangleOf_121 : decode cX10_triangleOf 121 = .ok (.iload 5, 2) := by decide +kernel
theorem dX10_triangleOf_123 : decode cX10_triangleOf 123 = .ok (.iload 6, 2) := by decide +kernel
theorem dX10_triangleOf_125 : decode cX10_triangleOf 125 = .ok (.iload 7, 2) := by decide +kernel
theorem dX10_triangleOf_127 : decode cX10_triangleOf 127 = .ok (.invokevirtual 193, 3) := by decide +kernel
theorem dX10_triangleOf_130 : decode cX10_triangleOf 130 = .ok (.ifCond .eq 9, 3) := by decide +kernel
theorem dX10_triangleOf_133 : decode cX10_triangleOf 133 = .ok (.iload 4, 2) := by decide +kernel
theorem dX10_triangleOf_135 : decode cX10_triangleOf 135 = .ok (.istore_n 2, 1) := by decide +kernel
theorem dX10_triangleOf_136 : decode cX10_triangleOf 136 = .ok (.iload 8, 2) := by decide +kernel
theorem dX10_triangleOf_138 : decode cX10_triangleOf 138 = .ok (.istore_n 3, 1) := by decide +kernel
theorem dX10_triangleOf_139 : decode cX10_triangleOf 139 = .ok (.iinc 4 1, 3) := by decide +kernel
theorem dX10_triangleOf_142 : decode cX10_triangleOf 142 = .ok (.goto (-133), 3) := by decide +kernel
theorem dX10_triangleOf_145 : decode cX10_triangleOf 145 = .ok (.iload_n 2, 1) := by decide +kernel
theorem dX10_triangleOf_146 : decode cX10_triangleOf 146 = .ok (.ireturn, 1) := by decide +kernel
theorem dX10_nearest_0 : decode cX10_nearest 0 = .ok (.bipush (-4), 2) := by decide +kernel
theorem dX10_nearest_2 : decode cX10_nearest 2 = .ok (.istore_n 2, 1) := by decide +kernel
theorem dX10_nearest_3 : decode cX10_nearest 3 = .ok (.iconst 0, 1) := by decide +kernel
theorem dX10_nearest_4 : decode cX10_nearest 4 = .ok (.istore_n 3, 1) := by decide +kernel
theorem dX10_nearest_5 : decode cX10_nearest 5 = .ok (.iload_n 3, 1) := by decide +kernel
theorem dX10_nearest_6 : decode cX10_nearest 6 = .ok (.aload_n 0, 1) := by decide +kernel
theorem dX10_nearest_7 : decode cX10_nearest 7 = .ok (.getfield 16, 3) := by decide +kernel
theorem dX10_nearest_10 : decode cX10_nearest 10 = .ok (.iconst 0, 1) := by decide +kernel
theorem dX10_nearest_11 : decode cX10_nearest 11 = .ok (.iaload, 1) := by decide +kernel
theorem dX10_nearest_12 : decode cX10_nearest 12 = .ok (.if_icmp .ge 56, 3) := by decide +kernel
theorem dX10_nearest_15 : decode cX10_nearest 15 = .ok (.aload_n 0, 1) := by decide +kernel
theorem dX10_nearest_16 : decode cX10_nearest 16 = .ok (.iload_n 3, 1) := by decide +kernel
theorem dX10_nearest_17 : decode cX10_nearest 17 = .ok (.invokevirtual 190, 3) := by decide +kernel
theorem dX10_nearest_20 : decode cX10_nearest 20 = .ok (.ifCond .eq 28, 3) := by decide +kernel
theorem dX10_nearest_23 : decode cX10_nearest 23 = .ok (.iload_n 2, 1) := by decide +kernel
theorem dX10_nearest_24 : decode cX10_nearest 24 = .ok (.bipush (-4), 2) := by decide +kernel
theorem dX10_nearest_26 : decode cX10_nearest 26 = .ok (.if_icmp .eq 18, 3) := by decide +kernel
theorem dX10_nearest_29 : decode cX10_nearest 29 = .ok (.aload_n 0, 1) := by decide +kernel
theorem dX10_nearest_30 : decode cX10_nearest 30 = .ok (.iload_n 1, 1) := by decide +kernel
theorem dX10_nearest_31 : decode cX10_nearest 31 = .ok (.iload_n 3, 1) := by decide +kernel
theorem dX10_nearest_32 : decode cX10_nearest 32 = .ok (.invokevirtual 134, 3) := by decide +kernel
theorem dX10_nearest_35 : decode cX10_nearest 35 = .ok (.aload_n 0, 1) := by decide +kernel
theorem dX10_nearest_36 : decode cX10_nearest 36 = .ok (.iload_n 1, 1) := by decide +kernel
theorem dX10_nearest_37 : decode cX10_nearest 37 = .ok (.iload_n 2, 1) := by decide +kernel
theorem dX10_nearest_38 : decode cX10_nearest 38 = .ok (.invokevirtual 134, 3) := by decide +kernel
theorem dX10_nearest_41 : decode cX10_nearest 41 = .ok (.if_icmp .ge 7, 3) := by decide +kernel
theorem dX10_nearest_44 : decode cX10_nearest 44 = .ok (.iconst 1, 1) := by decide +kernel
theorem dX10_nearest_45 : decode cX10_nearest 45 = .ok (.goto 4, 3) := by decide +kernel
theorem dX10_nearest_48 : decode cX10_nearest 48 = .ok (.iconst 0, 1) := by decide +kernel
theorem dX10_nearest_49 : decode cX10_nearest 49 = .ok (.istore 4, 2) := by decide +kernel
theorem dX10_nearest_51 : decode cX10_nearest 51 = .ok (.iload 4, 2) := by decide +kernel
theorem dX10_nearest_53 : decode cX10_nearest 53 = .ok (.ifCond .eq 7, 3) := by decide +kernel
theorem dX10_nearest_56 : decode cX10_nearest 56 = .ok (.iload_n 3, 1) := by decide +kernel
theorem dX10_nearest_57 : decode cX10_nearest 57 = .ok (.goto 4, 3) := by decide +kernel
theorem dX10_nearest_60 : decode cX10_nearest 60 = .ok (.iload_n 2, 1) := by decide +kernel
theorem dX10_nearest_61 : decode cX10_nearest 61 = .ok (.istore_n 2, 1) := by decide +kernel
theorem dX10_nearest_62 : decode cX10_nearest 62 = .ok (.iinc 3 1, 3) := by decide +kernel
theorem dX10_nearest_65 : decode cX10_nearest 65 = .ok (.goto (-60), 3) := by decide +kernel
theorem dX10_nearest_68 : decode cX10_nearest 68 = .ok (.iload_n 2, 1) := by decide +kernel
theorem dX10_nearest_69 : decode cX10_nearest 69 = .ok (.ireturn, 1) := by decide +kernel
theorem dX10_placeOf_0 : decode cX10_placeOf 0 = .ok (.iload_n 2, 1) := by decide +kernel
theorem dX10_placeOf_1 : decode cX10_placeOf 1 = .ok (.ifCond .eq 12, 3) := by decide +kernel
theorem dX10_placeOf_4 : decode cX10_placeOf 4 = .ok (.aload_n 0, 1) := by decide +kernel
theorem dX10_placeOf_5 : decode cX10_placeOf 5 = .ok (.getfield 26, 3) := by decide +kernel
theorem dX10_placeOf_8 : decode cX10_placeOf 8 = .ok (.iload_n 1, 1) := by decide +kernel
theorem dX10_placeOf_9 : decode cX10_placeOf 9 = .ok (.iaload, 1) := by decide +kernel
theorem dX10_placeOf_10 : decode cX10_placeOf 10 = .ok (.goto 9, 3) := by decide +kernel
theorem dX10_placeOf_13 : decode cX10_placeOf 13 = .ok (.aload_n 0, 1) := by decide +kernel
theorem dX10_placeOf_14 : decode cX10_placeOf 14 = .ok (.getfield 29, 3) := by decide +kernel
theorem dX10_placeOf_17 : decode cX10_placeOf 17 = .ok (.iload_n 1, 1) := by decide +kernel
theorem dX10_placeOf_18 : decode cX10_placeOf 18 = .ok (.iaload, 1) := by decide +kernel
theorem dX10_placeOf_19 : decode cX10_placeOf 19 = .ok (.ireturn, 1) := by decide +kernel
theorem dX10_setComes_0 : decode cX10_setComes 0 = .ok (.aload_n 0, 1) := by decide +kernel
theorem dX10_setComes_1 : decode cX10_setComes 1 = .ok (.iload_n 1, 1) := by decide +kernel
theorem dX10_setComes_2 : decode cX10_setComes 2 = .ok (.invokevirtual 190, 3) := by decide +kernel
theorem dX10_setComes_5 : decode cX10_setComes 5 = .ok (.ifCond .eq 23, 3) := by decide +kernel
theorem dX10_setComes_8 : decode cX10_setComes 8 = .ok (.aload_n 0, 1) := by decide +kernel
theorem dX10_setComes_9 : decode cX10_setComes 9 = .ok (.aload_n 0, 1) := by decide +kernel
theorem dX10_setComes_10 : decode cX10_setComes 10 = .ok (.bipush 8, 2) := by decide +kernel
theorem dX10_setComes_12 : decode cX10_setComes 12 = .ok (.aload_n 0, 1) := by decide +kernel
theorem dX10_setComes_13 : decode cX10_setComes 13 = .ok (.getfield 56, 3) := by decide +kernel
theorem dX10_setComes_16 : decode cX10_setComes 16 = .ok (.iload_n 1, 1) := by decide +kernel
theorem dX10_setComes_17 : decode cX10_setComes 17 = .ok (.iaload, 1) := by decide +kernel
theorem dX10_setComes_18 : decode cX10_setComes 18 = .ok (.iadd, 1) := by decide +kernel
theorem dX10_setComes_19 : decode cX10_setComes 19 = .ok (.iload_n 2, 1) := by decide +kernel
theorem dX10_setComes_20 : decode cX10_setComes 20 = .ok (.invokevirtual 197, 3) := by decide +kernel
theorem dX10_setComes_23 : decode cX10_setComes 23 = .ok (.iconst 1, 1) := by decide +kernel
theorem dX10_setComes_24 : decode cX10_setComes 24 = .ok (.invokevirtual 201, 3) := by decide +kernel
theorem dX10_setComes_27 : decode cX10_setComes 27 = .ok (.return_, 1) := by decide +kernel
theorem dX10_setComes_28 : decode cX10_setComes 28 = .ok (.aload_n 0, 1) := by decide +kernel
theorem dX10_setComes_29 : decode cX10_setComes 29 = .ok (.iload_n 1, 1) := by decide +kernel
theorem dX10_setComes_30 : decode cX10_setComes 30 = .ok (.invokevirtual 205, 3) := by decide +kernel
theorem dX10_setComes_33 : decode cX10_setComes 33 = .ok (.istore_n 3, 1) := by decide +kernel
theorem dX10_setComes_34 : decode cX10_setComes 34 = .ok (.iload_n 3, 1) := by decide +kernel
theorem dX10_setComes_35 : decode cX10_setComes 35 = .ok (.bipush (-4), 2) := by decide +kernel
theorem dX10_setComes_37 : decode cX10_setComes 37 = .ok (.if_icmp .eq 132, 3) := by decide +kernel
theorem dX10_setComes_40 : decode cX10_setComes 40 = .ok (.iload_n 3, 1) := by decide +kernel
theorem dX10_setComes_41 : decode cX10_setComes 41 = .ok (.bipush 64, 2) := by decide +kernel
theorem dX10_setComes_43 : decode cX10_setComes 43 = .ok (.idiv, 1) := by decide +kernel
theorem dX10_setComes_44 : decode cX10_setComes 44 = .ok (.istore 4, 2) := by decide +kernel
theorem dX10_setComes_46 : decode cX10_setComes 46 = .ok (.iload_n 3, 1) := by decide +kernel
theorem dX10_setComes_47 : decode cX10_setComes 47 = .ok (.bipush 8, 2) := by decide +kernel
theorem dX10_setComes_49 : decode cX10_setComes 49 = .ok (.idiv, 1) := by decide +kernel
theorem dX10_setComes_50 : decode cX10_setComes 50 = .ok (.bipush 8, 2) := by decide +kernel
theorem dX10_setComes_52 : decode cX10_setComes 52 = .ok (.irem, 1) := by decide +kernel
theorem dX10_setComes_53 : decode cX10_setComes 53 = .ok (.istore 5, 2) := by decide +kernel
theorem dX10_setComes_55 : decode cX10_setComes 55 = .ok (.iload_n 3, 1) := by decide +kernel
theorem dX10_setComes_56 : decode cX10_setComes 56 = .ok (.bipush 8, 2) := by decide +kernel
theorem dX10_setComes_58 : decode cX10_setComes 58 = .ok (.irem, 1) := by decide +kernel
theorem dX10_setComes_59 : decode cX10_setComes 59 = .ok (.istore 6, 2) := by decide +kernel
theorem dX10_setComes_61 : decode cX10_setComes 61 = .ok (.aload_n 0, 1) := by decide +kernel
theorem dX10_setComes_62 : decode cX10_setComes 62 = .ok (.iload_n 1, 1) := by decide +kernel
theorem dX10_setComes_63 : decode cX10_setComes 63 = .ok (.iload 5, 2) := by decide +kernel
theorem dX10_setComes_65 : decode cX10_setComes 65 = .ok (.iload 6, 2) := by decide +kernel
theorem dX10_setComes_67 : decode cX10_setComes 67 = .ok (.invokevirtual 177, 3) := by decide +kernel
theorem dX10_setComes_70 : decode cX10_setComes 70 = .ok (.invokestatic 180, 3) := by decide +kernel
theorem dX10_setComes_73 : decode cX10_setComes 73 = .ok (.aload_n 0, 1) := by decide +kernel
theorem dX10_setComes_74 : decode cX10_setComes 74 = .ok (.bipush 8, 2) := by decide +kernel
theorem dX10_setComes_76 : decode cX10_setComes 76 = .ok (.aload_n 0, 1) := by decide +kernel
theorem dX10_setComes_77 : decode cX10_setComes 77 = .ok (.getfield 56, 3) := by decide +kernel
theorem dX10_setComes_80 : decode cX10_setComes 80 = .ok (.iload 4, 2) := by decide +kernel
theorem dX10_setComes_82 : decode cX10_setComes 82 = .ok (.iaload, 1) := by decide +kernel
theorem dX10_setComes_83 : decode cX10_setComes 83 = .ok (.iadd, 1) := by decide +kernel
theorem dX10_setComes_84 : decode cX10_setComes 84 = .ok (.iload_n 2, 1) := by decide +kernel
theorem dX10_setComes_85 : decode cX10_setComes 85 = .ok (.invokevirtual 197, 3) := by decide +kernel
theorem dX10_setComes_88 : decode cX10_setComes 88 = .ok (.imul, 1) := by decide +kernel
theorem dX10_setComes_89 : decode cX10_setComes 89 = .ok (.aload_n 0, 1) := by decide +kernel
theorem dX10_setComes_90 : decode cX10_setComes 90 = .ok (.iload 4, 2) := by decide +kernel
theorem dX10_setComes_92 : decode cX10_setComes 92 = .ok (.iload_n 1, 1) := by decide +kernel
theorem dX10_setComes_93 : decode cX10_setComes 93 = .ok (.iload 6, 2) := by decide +kernel
theorem dX10_setComes_95 : decode cX10_setComes 95 = .ok (.invokevirtual 177, 3) := by decide +kernel
theorem dX10_setComes_98 : decode cX10_setComes 98 = .ok (.invokestatic 180, 3) := by decide +kernel
theorem dX10_setComes_101 : decode cX10_setComes 101 = .ok (.aload_n 0, 1) := by decide +kernel
theorem dX10_setComes_102 : decode cX10_setComes 102 = .ok (.bipush 8, 2) := by decide +kernel
theorem dX10_setComes_104 : decode cX10_setComes 104 = .ok (.aload_n 0, 1) := by decide +kernel
theorem dX10_setComes_105 : decode cX10_setComes 105 = .ok (.getfield 56, 3) := by decide +kernel
theorem dX10_setComes_108 : decode cX10_setComes 108 = .ok (.iload 5, 2) := by decide +kernel
theorem dX10_setComes_110 : decode cX10_setComes 110 = .ok (.iaload, 1) := by decide +kernel
theorem dX10_setComes_111 : decode cX10_setComes 111 = .ok (.iadd, 1) := by decide +kernel
theorem dX10_setComes_112 : decode cX10_setComes 112 = .ok (.iload_n 2, 1) := by decide +kernel
theorem dX10_setComes_113 : decode cX10_setComes 113 = .ok (.invokevirtual 197, 3) := by decide +kernel
theorem dX10_setComes_116 : decode cX10_setComes 116 = .ok (.imul, 1) := by decide +kernel
theorem dX10_setComes_117 : decode cX10_setComes 117 = .ok (.iadd, 1) := by decide +kernel
theorem dX10_setComes_118 : decode cX10_setComes 118 = .ok (.aload_n 0, 1) := by decide +kernel
theorem dX10_setComes_119 : decode cX10_setComes 119 = .ok (.iload 4, 2) := by decide +kernel
theorem dX10_setComes_121 : decode cX10_setComes 121 = .ok (.iload 5, 2) := by decide +kernel
theorem dX10_setComes_123 : decode cX10_setComes 123 = .ok (.iload_n 1, 1) := by decide +kernel
theorem dX10_setComes_124 : decode cX10_setComes 124 = .ok (.invokevirtual 177, 3) := by decide +kernel
theorem dX10_setComes_127 : decode cX10_setComes 127 = .ok (.invokestatic 180, 3) := by decide +kernel
theorem dX10_setComes_130 : decode cX10_setComes 130 = .ok (.aload_n 0, 1) := by decide +kernel
theorem dX10_setComes_131 : decode cX10_setComes 131 = .ok (.bipush 8, 2) := by decide +kernel
theorem dX10_setComes_133 : decode cX10_setComes 133 = .ok (.aload_n 0, 1) := by decide +kernel
theorem dX10_setComes_134 : decode cX10_setComes 134 = .ok (.getfield 56, 3) := by decide +kernel
theorem dX10_setComes_137 : decode cX10_setComes 137 = .ok (.iload 6, 2) := by decide +kernel
theorem dX10_setComes_139 : decode cX10_setComes 139 = .ok (.iaload, 1) := by decide +kernel
theorem dX10_setComes_140 : decode cX10_setComes 140 = .ok (.iadd, 1) := by decide +kernel
theorem dX10_setComes_141 : decode cX10_setComes 141 = .ok (.iload_n 2, 1) := by decide +kernel
theorem dX10_setComes_142 : decode cX10_setComes 142 = .ok (.invokevirtual 197, 3) := by decide +kernel
theorem dX10_setComes_145 : decode cX10_setComes 145 = .ok (.imul, 1) := by decide +kernel
theorem dX10_setComes_146 : decode cX10_setComes 146 = .ok (.iadd, 1) := by decide +kernel
theorem dX10_setComes_147 : decode cX10_setComes 147 = .ok (.istore 7, 2) := by decide +kernel
theorem dX10_setComes_149 : decode cX10_setComes 149 = .ok (.aload_n 0, 1) := by decide +kernel
theorem dX10_setComes_150 : decode cX10_setComes 150 = .ok (.iload 7, 2) := by decide +kernel
theorem dX10_setComes_152 : decode cX10_setComes 152 = .ok (.aload_n 0, 1) := by decide +kernel
theorem dX10_setComes_153 : decode cX10_setComes 153 = .ok (.iload 4, 2) := by decide +kernel
theorem dX10_setComes_155 : decode cX10_setComes 155 = .ok (.iload 5, 2) := by decide +kernel
theorem dX10_setComes_157 : decode cX10_setComes 157 = .ok (.iload 6, 2) := by decide +kernel
theorem dX10_setComes_159 : decode cX10_setComes 159 = .ok (.invokevirtual 177, 3) := by decide +kernel
theorem dX10_setComes_162 : decode cX10_setComes 162 = .ok (.invokestatic 180, 3) := by decide +kernel
theorem dX10_setComes_165 : decode cX10_setComes 165 = .ok (.invokevirtual 201, 3) := by decide +kernel
theorem dX10_setComes_168 : decode cX10_setComes 168 = .ok (.return_, 1) := by decide +kernel
theorem dX10_setComes_169 : decode cX10_setComes 169 = .ok (.aload_n 0, 1) := by decide +kernel
theorem dX10_setComes_170 : decode cX10_setComes 170 = .ok (.iload_n 1, 1) := by decide +kernel
theorem dX10_setComes_171 : decode cX10_setComes 171 = .ok (.invokevirtual 208, 3) := by decide +kernel
theorem dX10_setComes_174 : decode cX10_setComes 174 = .ok (.istore 4, 2) := by decide +kernel
theorem dX10_setComes_176 : decode cX10_setComes 176 = .ok (.aload_n 0, 1) := by decide +kernel
theorem dX10_setComes_177 : decode cX10_setComes 177 = .ok (.aload_n 0, 1) := by decide +kernel
theorem dX10_setComes_178 : decode cX10_setComes 178 = .ok (.iload_n 1, 1) := by decide +kernel
theorem dX10_setComes_179 : decode cX10_setComes 179 = .ok (.iload_n 2, 1) := by decide +kernel
theorem dX10_setComes_180 : decode cX10_setComes 180 = .ok (.invokevirtual 197, 3) := by decide +kernel
theorem dX10_setComes_183 : decode cX10_setComes 183 = .ok (.iload 4, 2) := by decide +kernel
theorem dX10_setComes_185 : decode cX10_setComes 185 = .ok (.bipush (-4), 2) := by decide +kernel
theorem dX10_setComes_187 : decode cX10_setComes 187 = .ok (.if_icmp .ne 7, 3) := by decide +kernel
theorem dX10_setComes_190 : decode cX10_setComes 190 = .ok (.iconst 0, 1) := by decide +kernel
theorem dX10_setComes_191 : decode cX10_setComes 191 = .ok (.goto 26, 3) := by decide +kernel
theorem dX10_setComes_194 : decode cX10_setComes 194 = .ok (.aload_n 0, 1) := by decide +kernel
theorem dX10_setComes_195 : decode cX10_setComes 195 = .ok (.bipush 8, 2) := by decide +kernel
theorem dX10_setComes_197 : decode cX10_setComes 197 = .ok (.aload_n 0, 1) := by decide +kernel
theorem dX10_setComes_198 : decode cX10_setComes 198 = .ok (.getfield 56, 3) := by decide +kernel
theorem dX10_setComes_201 : decode cX10_setComes 201 = .ok (.iload 4, 2) := by decide +kernel
theorem dX10_setComes_203 : decode cX10_setComes 203 = .ok (.iaload, 1) := by decide +kernel
theorem dX10_setComes_204 : decode cX10_setComes 204 = .ok (.iadd, 1) := by decide +kernel
theorem dX10_setComes_205 : decode cX10_setComes 205 = .ok (.iload_n 2, 1) := by decide +kernel
theorem dX10_setComes_206 : decode cX10_setComes 206 = .ok (.invokevirtual 197, 3) := by decide +kernel
theorem dX10_setComes_209 : decode cX10_setComes 209 = .ok (.aload_n 0, 1) := by decide +kernel
theorem dX10_setComes_210 : decode cX10_setComes 210 = .ok (.iload 4, 2) := by decide +kernel
theorem dX10_setComes_212 : decode cX10_setComes 212 = .ok (.iload_n 2, 1) := by decide +kernel
theorem dX10_setComes_213 : decode cX10_setComes 213 = .ok (.invokevirtual 197, 3) := by decide +kernel
theorem dX10_setComes_216 : decode cX10_setComes 216 = .ok (.isub, 1) := by decide +kernel
theorem dX10_setComes_217 : decode cX10_setComes 217 = .ok (.iadd, 1) := by decide +kernel
theorem dX10_setComes_218 : decode cX10_setComes 218 = .ok (.iconst 1, 1) := by decide +kernel
theorem dX10_setComes_219 : decode cX10_setComes 219 = .ok (.invokevirtual 201, 3) := by decide +kernel
theorem dX10_setComes_222 : decode cX10_setComes 222 = .ok (.return_, 1) := by decide +kernel
theorem dX10_comes_0 : decode cX10_comes 0 = .ok (.aload_n 0, 1) := by decide +kernel
theorem dX10_comes_1 : decode cX10_comes 1 = .ok (.iconst 0, 1) := by decide +kernel
theorem dX10_comes_2 : decode cX10_comes 2 = .ok (.iload_n 1, 1) := by decide +kernel
theorem dX10_comes_3 : decode cX10_comes 3 = .ok (.invokevirtual 92, 3) := by decide +kernel
theorem dX10_comes_6 : decode cX10_comes 6 = .ok (.ifCond .eq 12, 3) := by decide +kernel
theorem dX10_comes_9 : decode cX10_comes 9 = .ok (.iload_n 2, 1) := by decide +kernel
theorem dX10_comes_10 : decode cX10_comes 10 = .ok (.iconst 0, 1) := by decide +kernel
theorem dX10_comes_11 : decode cX10_comes 11 = .ok (.iconst 3, 1) := by decide +kernel
theorem dX10_comes_12 : decode cX10_comes 12 = .ok (.invokestatic 84, 3) := by decide +kernel
theorem dX10_comes_15 : decode cX10_comes 15 = .ok (.ifCond .ne 5, 3) := by decide +kernel
theorem dX10_comes_18 : decode cX10_comes 18 = .ok (.iconst (-1), 1) := by decide +kernel
theorem dX10_comes_19 : decode cX10_comes 19 = .ok (.ireturn, 1) := by decide +kernel
theorem dX10_comes_20 : decode cX10_comes 20 = .ok (.aload_n 0, 1) := by decide +kernel
theorem dX10_comes_21 : decode cX10_comes 21 = .ok (.invokevirtual 156, 3) := by decide +kernel
theorem dX10_comes_24 : decode cX10_comes 24 = .ok (.aload_n 0, 1) := by decide +kernel
theorem dX10_comes_25 : decode cX10_comes 25 = .ok (.iload_n 1, 1) := by decide +kernel
theorem dX10_comes_26 : decode cX10_comes 26 = .ok (.iload_n 2, 1) := by decide +kernel
theorem dX10_comes_27 : decode cX10_comes 27 = .ok (.iconst 2, 1) := by decide +kernel
theorem dX10_comes_28 : decode cX10_comes 28 = .ok (.if_icmp .ge 7, 3) := by decide +kernel
theorem dX10_comes_31 : decode cX10_comes 31 = .ok (.iconst 1, 1) := by decide +kernel
theorem dX10_comes_32 : decode cX10_comes 32 = .ok (.goto 4, 3) := by decide +kernel
theorem dX10_comes_35 : decode cX10_comes 35 = .ok (.iconst 0, 1) := by decide +kernel
theorem dX10_comes_36 : decode cX10_comes 36 = .ok (.invokevirtual 211, 3) := by decide +kernel
theorem dX10_comes_39 : decode cX10_comes 39 = .ok (.iload_n 2, 1) := by decide +kernel
theorem dX10_comes_40 : decode cX10_comes 40 = .ok (.iconst 2, 1) := by decide +kernel
theorem dX10_comes_41 : decode cX10_comes 41 = .ok (.irem, 1) := by decide +kernel
theorem dX10_comes_42 : decode cX10_comes 42 = .ok (.ifCond .ne 13, 3) := by decide +kernel
theorem dX10_comes_45 : decode cX10_comes 45 = .ok (.aload_n 0, 1) := by decide +kernel
theorem dX10_comes_46 : decode cX10_comes 46 = .ok (.getfield 183, 3) := by decide +kernel
theorem dX10_comes_49 : decode cX10_comes 49 = .ok (.ldc 215, 2) := by decide +kernel
theorem dX10_comes_51 : decode cX10_comes 51 = .ok (.iadd, 1) := by decide +kernel
theorem dX10_comes_52 : decode cX10_comes 52 = .ok (.goto 7, 3) := by decide +kernel
theorem dX10_comes_55 : decode cX10_comes 55 = .ok (.aload_n 0, 1) := by decide +kernel
theorem dX10_comes_56 : decode cX10_comes 56 = .ok (.getfield 186, 3) := by decide +kernel
theorem dX10_comes_59 : decode cX10_comes 59 = .ok (.ireturn, 1) := by decide +kernel
theorem dX10_matchedMany_0 : decode cX10_matchedMany 0 = .ok (.iconst 0, 1) := by decide +kernel
theorem dX10_matchedMany_1 : decode cX10_matchedMany 1 = .ok (.istore_n 1, 1) := by decide +kernel
theorem dX10_matchedMany_2 : decode cX10_matchedMany 2 = .ok (.iconst 0, 1) := by decide +kernel
theorem dX10_matchedMany_3 : decode cX10_matchedMany 3 = .ok (.istore_n 2, 1) := by decide +kernel
theorem dX10_matchedMany_4 : decode cX10_matchedMany 4 = .ok (.iload_n 2, 1) := by decide +kernel
theorem dX10_matchedMany_5 : decode cX10_matchedMany 5 = .ok (.aload_n 0, 1) := by decide +kernel
theorem dX10_matchedMany_6 : decode cX10_matchedMany 6 = .ok (.getfield 16, 3) := by decide +kernel
theorem dX10_matchedMany_9 : decode cX10_matchedMany 9 = .ok (.iconst 0, 1) := by decide +kernel
theorem dX10_matchedMany_10 : decode cX10_matchedMany 10 = .ok (.iaload, 1) := by decide +kernel
theorem dX10_matchedMany_11 : decode cX10_matchedMany 11 = .ok (.if_icmp .ge 25, 3) := by decide +kernel
theorem dX10_matchedMany_14 : decode cX10_matchedMany 14 = .ok (.iload_n 1, 1) := by decide +kernel
theorem dX10_matchedMany_15 : decode cX10_matchedMany 15 = .ok (.aload_n 0, 1) := by decide +kernel
theorem dX10_matchedMany_16 : decode cX10_matchedMany 16 = .ok (.iload_n 2, 1) := by decide +kernel
theorem dX10_matchedMany_17 : decode cX10_matchedMany 17 = .ok (.invokevirtual 190, 3) := by decide +kernel
theorem dX10_matchedMany_20 : decode cX10_matchedMany 20 = .ok (.ifCond .eq 7, 3) := by decide +kernel
theorem dX10_matchedMany_23 : decode cX10_matchedMany 23 = .ok (.iconst 1, 1) := by decide +kernel
theorem dX10_matchedMany_24 : decode cX10_matchedMany 24 = .ok (.goto 4, 3) := by decide +kernel
theorem dX10_matchedMany_27 : decode cX10_matchedMany 27 = .ok (.iconst 0, 1) := by decide +kernel
theorem dX10_matchedMany_28 : decode cX10_matchedMany 28 = .ok (.iadd, 1) := by decide +kernel
theorem dX10_matchedMany_29 : decode cX10_matchedMany 29 = .ok (.istore_n 1, 1) := by decide +kernel
theorem dX10_matchedMany_30 : decode cX10_matchedMany 30 = .ok (.iinc 2 1, 3) := by decide +kernel
theorem dX10_matchedMany_33 : decode cX10_matchedMany 33 = .ok (.goto (-29), 3) := by decide +kernel
theorem dX10_matchedMany_36 : decode cX10_matchedMany 36 = .ok (.iload_n 1, 1) := by decide +kernel
theorem dX10_matchedMany_37 : decode cX10_matchedMany 37 = .ok (.ireturn, 1) := by decide +kernel
theorem dX10_turnedMany_0 : decode cX10_turnedMany 0 = .ok (.iconst 0, 1) := by decide +kernel
theorem dX10_turnedMany_1 : decode cX10_turnedMany 1 = .ok (.istore_n 1, 1) := by decide +kernel
theorem dX10_turnedMany_2 : decode cX10_turnedMany 2 = .ok (.iconst 0, 1) := by decide +kernel
theorem dX10_turnedMany_3 : decode cX10_turnedMany 3 = .ok (.istore_n 2, 1) := by decide +kernel
theorem dX10_turnedMany_4 : decode cX10_turnedMany 4 = .ok (.iload_n 2, 1) := by decide +kernel
theorem dX10_turnedMany_5 : decode cX10_turnedMany 5 = .ok (.sipush 512, 3) := by decide +kernel
theorem dX10_turnedMany_8 : decode cX10_turnedMany 8 = .ok (.if_icmp .ge 153, 3) := by decide +kernel
theorem dX10_turnedMany_11 : decode cX10_turnedMany 11 = .ok (.iload_n 2, 1) := by decide +kernel
theorem dX10_turnedMany_12 : decode cX10_turnedMany 12 = .ok (.bipush 64, 2) := by decide +kernel
theorem dX10_turnedMany_14 : decode cX10_turnedMany 14 = .ok (.idiv, 1) := by decide +kernel
theorem dX10_turnedMany_15 : decode cX10_turnedMany 15 = .ok (.istore_n 3, 1) := by decide +kernel
theorem dX10_turnedMany_16 : decode cX10_turnedMany 16 = .ok (.iload_n 2, 1) := by decide +kernel
theorem dX10_turnedMany_17 : decode cX10_turnedMany 17 = .ok (.bipush 8, 2) := by decide +kernel
theorem dX10_turnedMany_19 : decode cX10_turnedMany 19 = .ok (.idiv, 1) := by decide +kernel
theorem dX10_turnedMany_20 : decode cX10_turnedMany 20 = .ok (.bipush 8, 2) := by decide +kernel
theorem dX10_turnedMany_22 : decode cX10_turnedMany 22 = .ok (.irem, 1) := by decide +kernel
theorem dX10_turnedMany_23 : decode cX10_turnedMany 23 = .ok (.istore 4, 2) := by decide +kernel
theorem dX10_turnedMany_25 : decode cX10_turnedMany 25 = .ok (.iload_n 2, 1) := by decide +kernel
theorem dX10_turnedMany_26 : decode cX10_turnedMany 26 = .ok (.bipush 8, 2) := by decide +kernel
theorem dX10_turnedMany_28 : decode cX10_turnedMany 28 = .ok (.irem, 1) := by decide +kernel
theorem dX10_turnedMany_29 : decode cX10_turnedMany 29 = .ok (.istore 5, 2) := by decide +kernel
theorem dX10_turnedMany_31 : decode cX10_turnedMany 31 = .ok (.iload_n 3, 1) := by decide +kernel
theorem dX10_turnedMany_32 : decode cX10_turnedMany 32 = .ok (.iload 4, 2) := by decide +kernel
theorem dX10_turnedMany_34 : decode cX10_turnedMany 34 = .ok (.if_icmp .ge 121, 3) := by decide +kernel
theorem dX10_turnedMany_37 : decode cX10_turnedMany 37 = .ok (.iload 4, 2) := by decide +kernel
theorem dX10_turnedMany_39 : decode cX10_turnedMany 39 = .ok (.iload 5, 2) := by decide +kernel
theorem dX10_turnedMany_41 : decode cX10_turnedMany 41 = .ok (.if_icmp .ge 114, 3) := by decide +kernel
theorem dX10_turnedMany_44 : decode cX10_turnedMany 44 = .ok (.iload 5, 2) := by decide +kernel
theorem dX10_turnedMany_46 : decode cX10_turnedMany 46 = .ok (.aload_n 0, 1) := by decide +kernel
theorem dX10_turnedMany_47 : decode cX10_turnedMany 47 = .ok (.getfield 16, 3) := by decide +kernel
theorem dX10_turnedMany_50 : decode cX10_turnedMany 50 = .ok (.iconst 0, 1) := by decide +kernel
theorem dX10_turnedMany_51 : decode cX10_turnedMany 51 = .ok (.iaload, 1) := by decide +kernel
theorem dX10_turnedMany_52 : decode cX10_turnedMany 52 = .ok (.if_icmp .ge 103, 3) := by decide +kernel
theorem dX10_turnedMany_55 : decode cX10_turnedMany 55 = .ok (.aload_n 0, 1) := by decide +kernel
theorem dX10_turnedMany_56 : decode cX10_turnedMany 56 = .ok (.iload_n 3, 1) := by decide +kernel
theorem dX10_turnedMany_57 : decode cX10_turnedMany 57 = .ok (.invokevirtual 190, 3) := by decide +kernel
theorem dX10_turnedMany_60 : decode cX10_turnedMany 60 = .ok (.ifCond .eq 95, 3) := by decide +kernel
theorem dX10_turnedMany_63 : decode cX10_turnedMany 63 = .ok (.aload_n 0, 1) := by decide +kernel
theorem dX10_turnedMany_64 : decode cX10_turnedMany 64 = .ok (.iload 4, 2) := by decide +kernel
theorem dX10_turnedMany_66 : decode cX10_turnedMany 66 = .ok (.invokevirtual 190, 3) := by decide +kernel
theorem dX10_turnedMany_69 : decode cX10_turnedMany 69 = .ok (.ifCond .eq 86, 3) := by decide +kernel
theorem dX10_turnedMany_72 : decode cX10_turnedMany 72 = .ok (.aload_n 0, 1) := by decide +kernel
theorem dX10_turnedMany_73 : decode cX10_turnedMany 73 = .ok (.iload 5, 2) := by decide +kernel
theorem dX10_turnedMany_75 : decode cX10_turnedMany 75 = .ok (.invokevirtual 190, 3) := by decide +kernel
theorem dX10_turnedMany_78 : decode cX10_turnedMany 78 = .ok (.ifCond .eq 77, 3) := by decide +kernel
theorem dX10_turnedMany_81 : decode cX10_turnedMany 81 = .ok (.aload_n 0, 1) := by decide +kernel
theorem dX10_turnedMany_82 : decode cX10_turnedMany 82 = .ok (.iload_n 3, 1) := by decide +kernel
theorem dX10_turnedMany_83 : decode cX10_turnedMany 83 = .ok (.iload 4, 2) := by decide +kernel
theorem dX10_turnedMany_85 : decode cX10_turnedMany 85 = .ok (.iload 5, 2) := by decide +kernel
theorem dX10_turnedMany_87 : decode cX10_turnedMany 87 = .ok (.invokevirtual 177, 3) := by decide +kernel
theorem dX10_turnedMany_90 : decode cX10_turnedMany 90 = .ok (.istore 6, 2) := by decide +kernel
theorem dX10_turnedMany_92 : decode cX10_turnedMany 92 = .ok (.aload_n 0, 1) := by decide +kernel
theorem dX10_turnedMany_93 : decode cX10_turnedMany 93 = .ok (.bipush 8, 2) := by decide +kernel
theorem dX10_turnedMany_95 : decode cX10_turnedMany 95 = .ok (.aload_n 0, 1) := by decide +kernel
theorem dX10_turnedMany_96 : decode cX10_turnedMany 96 = .ok (.getfield 56, 3) := by decide +kernel
theorem dX10_turnedMany_99 : decode cX10_turnedMany 99 = .ok (.iload_n 3, 1) := by decide +kernel
theorem dX10_turnedMany_100 : decode cX10_turnedMany 100 = .ok (.iaload, 1) := by decide +kernel
theorem dX10_turnedMany_101 : decode cX10_turnedMany 101 = .ok (.iadd, 1) := by decide +kernel
theorem dX10_turnedMany_102 : decode cX10_turnedMany 102 = .ok (.bipush 8, 2) := by decide +kernel
theorem dX10_turnedMany_104 : decode cX10_turnedMany 104 = .ok (.aload_n 0, 1) := by decide +kernel
theorem dX10_turnedMany_105 : decode cX10_turnedMany 105 = .ok (.getfield 56, 3) := by decide +kernel
theorem dX10_turnedMany_108 : decode cX10_turnedMany 108 = .ok (.iload 4, 2) := by decide +kernel
theorem dX10_turnedMany_110 : decode cX10_turnedMany 110 = .ok (.iaload, 1) := by decide +kernel
theorem dX10_turnedMany_111 : decode cX10_turnedMany 111 = .ok (.iadd, 1) := by decide +kernel
theorem dX10_turnedMany_112 : decode cX10_turnedMany 112 = .ok (.bipush 8, 2) := by decide +kernel
theorem dX10_turnedMany_114 : decode cX10_turnedMany 114 = .ok (.aload_n 0, 1) := by decide +kernel
theorem dX10_turnedMany_115 : decode cX10_turnedMany 115 = .ok (.getfield 56, 3) := by decide +kernel
theorem dX10_turnedMany_118 : decode cX10_turnedMany 118 = .ok (.iload 5, 2) := by decide +kernel
theorem dX10_turnedMany_120 : decode cX10_turnedMany 120 = .ok (.iaload, 1) := by decide +kernel
theorem dX10_turnedMany_121 : decode cX10_turnedMany 121 = .ok (.iadd, 1) := by decide +kernel
theorem dX10_turnedMany_122 : decode cX10_turnedMany 122 = .ok (.invokevirtual 177, 3) := by decide +kernel
theorem dX10_turnedMany_125 : decode cX10_turnedMany 125 = .ok (.istore 7, 2) := by decide +kernel
theorem dX10_turnedMany_127 : decode cX10_turnedMany 127 = .ok (.iload_n 1, 1) := by decide +kernel
theorem dX10_turnedMany_128 : decode cX10_turnedMany 128 = .ok (.iload 6, 2) := by decide +kernel
theorem dX10_turnedMany_130 : decode cX10_turnedMany 130 = .ok (.ifCond .le 8, 3) := by decide +kernel
theorem dX10_turnedMany_133 : decode cX10_turnedMany 133 = .ok (.iload 7, 2) := by decide +kernel
theorem dX10_turnedMany_135 : decode cX10_turnedMany 135 = .ok (.ifCond .lt 13, 3) := by decide +kernel
theorem dX10_turnedMany_138 : decode cX10_turnedMany 138 = .ok (.iload 6, 2) := by decide +kernel
theorem dX10_turnedMany_140 : decode cX10_turnedMany 140 = .ok (.ifCond .ge 12, 3) := by decide +kernel
theorem dX10_turnedMany_143 : decode cX10_turnedMany 143 = .ok (.iload 7, 2) := by decide +kernel
theorem dX10_turnedMany_145 : decode cX10_turnedMany 145 = .ok (.ifCond .le 7, 3) := by decide +kernel
theorem dX10_turnedMany_148 : decode cX10_turnedMany 148 = .ok (.iconst 1, 1) := by decide +kernel
theorem dX10_turnedMany_149 : decode cX10_turnedMany 149 = .ok (.goto 4, 3) := by decide +kernel
theorem dX10_turnedMany_152 : decode cX10_turnedMany 152 = .ok (.iconst 0, 1) := by decide +kernel
theorem dX10_turnedMany_153 : decode cX10_turnedMany 153 = .ok (.iadd, 1) := by decide +kernel
theorem dX10_turnedMany_154 : decode cX10_turnedMany 154 = .ok (.istore_n 1, 1) := by decide +kernel
theorem dX10_turnedMany_155 : decode cX10_turnedMany 155 = .ok (.iinc 2 1, 3) := by decide +kernel
theorem dX10_turnedMany_158 : decode cX10_turnedMany 158 = .ok (.goto (-154), 3) := by decide +kernel
theorem dX10_turnedMany_161 : decode cX10_turnedMany 161 = .ok (.iload_n 1, 1) := by decide +kernel
theorem dX10_turnedMany_162 : decode cX10_turnedMany 162 = .ok (.ireturn, 1) := by decide +kernel
theorem dX10_isAgreed_0 : decode cX10_isAgreed 0 = .ok (.aload_n 0, 1) := by decide +kernel
theorem dX10_isAgreed_1 : decode cX10_isAgreed 1 = .ok (.aload_n 0, 1) := by decide +kernel
theorem dX10_isAgreed_2 : decode cX10_isAgreed 2 = .ok (.getfield 59, 3) := by decide +kernel
theorem dX10_isAgreed_5 : decode cX10_isAgreed 5 = .ok (.iconst 1, 1) := by decide +kernel
theorem dX10_isAgreed_6 : decode cX10_isAgreed 6 = .ok (.invokevirtual 152, 3) := by decide +kernel
theorem dX10_isAgreed_9 : decode cX10_isAgreed 9 = .ok (.iconst 1, 1) := by decide +kernel
theorem dX10_isAgreed_10 : decode cX10_isAgreed 10 = .ok (.istore_n 1, 1) := by decide +kernel
theorem dX10_isAgreed_11 : decode cX10_isAgreed 11 = .ok (.iconst 0, 1) := by decide +kernel
theorem dX10_isAgreed_12 : decode cX10_isAgreed 12 = .ok (.istore_n 2, 1) := by decide +kernel
theorem dX10_isAgreed_13 : decode cX10_isAgreed 13 = .ok (.iload_n 2, 1) := by decide +kernel
theorem dX10_isAgreed_14 : decode cX10_isAgreed 14 = .ok (.bipush 16, 2) := by decide +kernel
theorem dX10_isAgreed_16 : decode cX10_isAgreed 16 = .ok (.if_icmp .ge 34, 3) := by decide +kernel
theorem dX10_isAgreed_19 : decode cX10_isAgreed 19 = .ok (.iload_n 1, 1) := by decide +kernel
theorem dX10_isAgreed_20 : decode cX10_isAgreed 20 = .ok (.ifCond .eq 22, 3) := by decide +kernel
theorem dX10_isAgreed_23 : decode cX10_isAgreed 23 = .ok (.aload_n 0, 1) := by decide +kernel
theorem dX10_isAgreed_24 : decode cX10_isAgreed 24 = .ok (.getfield 56, 3) := by decide +kernel
theorem dX10_isAgreed_27 : decode cX10_isAgreed 27 = .ok (.iload_n 2, 1) := by decide +kernel
theorem dX10_isAgreed_28 : decode cX10_isAgreed 28 = .ok (.iaload, 1) := by decide +kernel
theorem dX10_isAgreed_29 : decode cX10_isAgreed 29 = .ok (.aload_n 0, 1) := by decide +kernel
theorem dX10_isAgreed_30 : decode cX10_isAgreed 30 = .ok (.getfield 59, 3) := by decide +kernel
theorem dX10_isAgreed_33 : decode cX10_isAgreed 33 = .ok (.iload_n 2, 1) := by decide +kernel
theorem dX10_isAgreed_34 : decode cX10_isAgreed 34 = .ok (.iaload, 1) := by decide +kernel
theorem dX10_isAgreed_35 : decode cX10_isAgreed 35 = .ok (.if_icmp .ne 7, 3) := by decide +kernel
theorem dX10_isAgreed_38 : decode cX10_isAgreed 38 = .ok (.iconst 1, 1) := by decide +kernel
theorem dX10_isAgreed_39 : decode cX10_isAgreed 39 = .ok (.goto 4, 3) := by decide +kernel
theorem dX10_isAgreed_42 : decode cX10_isAgreed 42 = .ok (.iconst 0, 1) := by decide +kernel
theorem dX10_isAgreed_43 : decode cX10_isAgreed 43 = .ok (.istore_n 1, 1) := by decide +kernel
theorem dX10_isAgreed_44 : decode cX10_isAgreed 44 = .ok (.iinc 2 1, 3) := by decide +kernel
theorem dX10_isAgreed_47 : decode cX10_isAgreed 47 = .ok (.goto (-34), 3) := by decide +kernel
theorem dX10_isAgreed_50 : decode cX10_isAgreed 50 = .ok (.iload_n 1, 1) := by decide +kernel
theorem dX10_isAgreed_51 : decode cX10_isAgreed 51 = .ok (.ireturn, 1) := by decide +kernel
theorem dX10_loneOf_0 : decode cX10_loneOf 0 = .ok (.iconst 0, 1) := by decide +kernel
theorem dX10_loneOf_1 : decode cX10_loneOf 1 = .ok (.istore_n 2, 1) := by decide +kernel
theorem dX10_loneOf_2 : decode cX10_loneOf 2 = .ok (.iconst 0, 1) := by decide +kernel
theorem dX10_loneOf_3 : decode cX10_loneOf 3 = .ok (.istore_n 3, 1) := by decide +kernel
theorem dX10_loneOf_4 : decode cX10_loneOf 4 = .ok (.iload_n 3, 1) := by decide +kernel
theorem dX10_loneOf_5 : decode cX10_loneOf 5 = .ok (.aload_n 0, 1) := by decide +kernel
theorem dX10_loneOf_6 : decode cX10_loneOf 6 = .ok (.getfield 16, 3) := by decide +kernel
theorem dX10_loneOf_9 : decode cX10_loneOf 9 = .ok (.iload_n 1, 1) := by decide +kernel
theorem dX10_loneOf_10 : decode cX10_loneOf 10 = .ok (.iaload, 1) := by decide +kernel
theorem dX10_loneOf_11 : decode cX10_loneOf 11 = .ok (.if_icmp .ge 35, 3) := by decide +kernel
theorem dX10_loneOf_14 : decode cX10_loneOf 14 = .ok (.iload_n 2, 1) := by decide +kernel
theorem dX10_loneOf_15 : decode cX10_loneOf 15 = .ok (.aload_n 0, 1) := by decide +kernel
theorem dX10_loneOf_16 : decode cX10_loneOf 16 = .ok (.getfield 56, 3) := by decide +kernel
theorem dX10_loneOf_19 : decode cX10_loneOf 19 = .ok (.bipush 8, 2) := by decide +kernel
theorem dX10_loneOf_21 : decode cX10_loneOf 21 = .ok (.iload_n 1, 1) := by decide +kernel
theorem dX10_loneOf_22 : decode cX10_loneOf 22 = .ok (.imul, 1) := by decide +kernel
theorem dX10_loneOf_23 : decode cX10_loneOf 23 = .ok (.iload_n 3, 1) := by decide +kernel
theorem dX10_loneOf_24 : decode cX10_loneOf 24 = .ok (.iadd, 1) := by decide +kernel
theorem dX10_loneOf_25 : decode cX10_loneOf 25 = .ok (.iaload, 1) := by decide +kernel
theorem dX10_loneOf_26 : decode cX10_loneOf 26 = .ok (.bipush (-4), 2) := by decide +kernel
theorem dX10_loneOf_28 : decode cX10_loneOf 28 = .ok (.if_icmp .ne 9, 3) := by decide +kernel
theorem dX10_loneOf_31 : decode cX10_loneOf 31 = .ok (.iconst 1, 1) := by decide +kernel
theorem dX10_loneOf_32 : decode cX10_loneOf 32 = .ok (.iload_n 3, 1) := by decide +kernel
theorem dX10_loneOf_33 : decode cX10_loneOf 33 = .ok (.ishl, 1) := by decide +kernel
theorem dX10_loneOf_34 : decode cX10_loneOf 34 = .ok (.goto 4, 3) := by decide +kernel
theorem dX10_loneOf_37 : decode cX10_loneOf 37 = .ok (.iconst 0, 1) := by decide +kernel
theorem dX10_loneOf_38 : decode cX10_loneOf 38 = .ok (.ior, 1) := by decide +kernel
theorem dX10_loneOf_39 : decode cX10_loneOf 39 = .ok (.istore_n 2, 1) := by decide +kernel
theorem dX10_loneOf_40 : decode cX10_loneOf 40 = .ok (.iinc 3 1, 3) := by decide +kernel
theorem dX10_loneOf_43 : decode cX10_loneOf 43 = .ok (.goto (-39), 3) := by decide +kernel
theorem dX10_loneOf_46 : decode cX10_loneOf 46 = .ok (.iload_n 2, 1) := by decide +kernel
theorem dX10_loneOf_47 : decode cX10_loneOf 47 = .ok (.ireturn, 1) := by decide +kernel
theorem dX10_toldMany_0 : decode cX10_toldMany 0 = .ok (.iconst 0, 1) := by decide +kernel
theorem dX10_toldMany_1 : decode cX10_toldMany 1 = .ok (.istore_n 1, 1) := by decide +kernel
theorem dX10_toldMany_2 : decode cX10_toldMany 2 = .ok (.iconst 0, 1) := by decide +kernel
theorem dX10_toldMany_3 : decode cX10_toldMany 3 = .ok (.istore_n 2, 1) := by decide +kernel
theorem dX10_toldMany_4 : decode cX10_toldMany 4 = .ok (.iload_n 2, 1) := by decide +kernel
theorem dX10_toldMany_5 : decode cX10_toldMany 5 = .ok (.aload_n 0, 1) := by decide +kernel
theorem dX10_toldMany_6 : decode cX10_toldMany 6 = .ok (.getfield 20, 3) := by decide +kernel
theorem dX10_toldMany_9 : decode cX10_toldMany 9 = .ok (.iconst 0, 1) := by decide +kernel
theorem dX10_toldMany_10 : decode cX10_toldMany 10 = .ok (.iaload, 1) := by decide +kernel
theorem dX10_toldMany_11 : decode cX10_toldMany 11 = .ok (.if_icmp .ge 29, 3) := by decide +kernel
theorem dX10_toldMany_14 : decode cX10_toldMany 14 = .ok (.aload_n 0, 1) := by decide +kernel
theorem dX10_toldMany_15 : decode cX10_toldMany 15 = .ok (.iload_n 2, 1) := by decide +kernel
theorem dX10_toldMany_16 : decode cX10_toldMany 16 = .ok (.invokevirtual 169, 3) := by decide +kernel
theorem dX10_toldMany_19 : decode cX10_toldMany 19 = .ok (.iload_n 1, 1) := by decide +kernel
theorem dX10_toldMany_20 : decode cX10_toldMany 20 = .ok (.aload_n 0, 1) := by decide +kernel
theorem dX10_toldMany_21 : decode cX10_toldMany 21 = .ok (.getfield 159, 3) := by decide +kernel
theorem dX10_toldMany_24 : decode cX10_toldMany 24 = .ok (.ifCond .le 7, 3) := by decide +kernel
theorem dX10_toldMany_27 : decode cX10_toldMany 27 = .ok (.iconst 1, 1) := by decide +kernel
theorem dX10_toldMany_28 : decode cX10_toldMany 28 = .ok (.goto 4, 3) := by decide +kernel
theorem dX10_toldMany_31 : decode cX10_toldMany 31 = .ok (.iconst 0, 1) := by decide +kernel
theorem dX10_toldMany_32 : decode cX10_toldMany 32 = .ok (.iadd, 1) := by decide +kernel
theorem dX10_toldMany_33 : decode cX10_toldMany 33 = .ok (.istore_n 1, 1) := by decide +kernel
theorem dX10_toldMany_34 : decode cX10_toldMany 34 = .ok (.iinc 2 1, 3) := by decide +kernel
theorem dX10_toldMany_37 : decode cX10_toldMany 37 = .ok (.goto (-33), 3) := by decide +kernel
theorem dX10_toldMany_40 : decode cX10_toldMany 40 = .ok (.iload_n 1, 1) := by decide +kernel
theorem dX10_toldMany_41 : decode cX10_toldMany 41 = .ok (.ireturn, 1) := by decide +kernel
theorem dX10_whole_0 : decode cX10_whole 0 = .ok (.iload_n 1, 1) := by decide +kernel
theorem dX10_whole_1 : decode cX10_whole 1 = .ok (.iconst 0, 1) := by decide +kernel
theorem dX10_whole_2 : decode cX10_whole 2 = .ok (.iconst 5, 1) := by decide +kernel
theorem dX10_whole_3 : decode cX10_whole 3 = .ok (.invokestatic 84, 3) := by decide +kernel
theorem dX10_whole_6 : decode cX10_whole 6 = .ok (.ifCond .ne 5, 3) := by decide +kernel
theorem dX10_whole_9 : decode cX10_whole 9 = .ok (.iconst (-1), 1) := by decide +kernel
theorem dX10_whole_10 : decode cX10_whole 10 = .ok (.ireturn, 1) := by decide +kernel
theorem dX10_whole_11 : decode cX10_whole 11 = .ok (.aload_n 0, 1) := by decide +kernel
theorem dX10_whole_12 : decode cX10_whole 12 = .ok (.invokevirtual 156, 3) := by decide +kernel
theorem dX10_whole_15 : decode cX10_whole 15 = .ok (.iload_n 1, 1) := by decide +kernel
theorem dX10_whole_16 : decode cX10_whole 16 = .ok (.tableswitch 71 0 4 #[36, 41, 46, 59, 65], 36) := by decide +kernel
theorem dX10_whole_52 : decode cX10_whole 52 = .ok (.aload_n 0, 1) := by decide +kernel
theorem dX10_whole_53 : decode cX10_whole 53 = .ok (.invokevirtual 216, 3) := by decide +kernel
theorem dX10_whole_56 : decode cX10_whole 56 = .ok (.ireturn, 1) := by decide +kernel
theorem dX10_whole_57 : decode cX10_whole 57 = .ok (.aload_n 0, 1) := by decide +kernel
theorem dX10_whole_58 : decode cX10_whole 58 = .ok (.invokevirtual 219, 3) := by decide +kernel
theorem dX10_whole_61 : decode cX10_whole 61 = .ok (.ireturn, 1) := by decide +kernel
theorem dX10_whole_62 : decode cX10_whole 62 = .ok (.aload_n 0, 1) := by decide +kernel
theorem dX10_whole_63 : decode cX10_whole 63 = .ok (.invokevirtual 222, 3) := by decide +kernel
theorem dX10_whole_66 : decode cX10_whole 66 = .ok (.ifCond .eq 7, 3) := by decide +kernel
theorem dX10_whole_69 : decode cX10_whole 69 = .ok (.iconst 1, 1) := by decide +kernel
theorem dX10_whole_70 : decode cX10_whole 70 = .ok (.goto 4, 3) := by decide +kernel
theorem dX10_whole_73 : decode cX10_whole 73 = .ok (.iconst 0, 1) := by decide +kernel
theorem dX10_whole_74 : decode cX10_whole 74 = .ok (.ireturn, 1) := by decide +kernel
theorem dX10_whole_75 : decode cX10_whole 75 = .ok (.aload_n 0, 1) := by decide +kernel
theorem dX10_whole_76 : decode cX10_whole 76 = .ok (.iconst 0, 1) := by decide +kernel
theorem dX10_whole_77 : decode cX10_whole 77 = .ok (.invokevirtual 226, 3) := by decide +kernel
theorem dX10_whole_80 : decode cX10_whole 80 = .ok (.ireturn, 1) := by decide +kernel
theorem dX10_whole_81 : decode cX10_whole 81 = .ok (.aload_n 0, 1) := by decide +kernel
theorem dX10_whole_82 : decode cX10_whole 82 = .ok (.iconst 1, 1) := by decide +kernel
theorem dX10_whole_83 : decode cX10_whole 83 = .ok (.invokevirtual 226, 3) := by decide +kernel
theorem dX10_whole_86 : decode cX10_whole 86 = .ok (.ireturn, 1) := by decide +kernel
theorem dX10_whole_87 : decode cX10_whole 87 = .ok (.aload_n 0, 1) := by decide +kernel
theorem dX10_whole_88 : decode cX10_whole 88 = .ok (.invokevirtual 229, 3) := by decide +kernel
theorem dX10_whole_91 : decode cX10_whole 91 = .ok (.ireturn, 1) := by decide +kernel
theorem dX10_empties_0 : decode cX10_empties 0 = .ok (.iconst 0, 1) := by decide +kernel
theorem dX10_empties_1 : decode cX10_empties 1 = .ok (.istore_n 1, 1) := by decide +kernel
theorem dX10_empties_2 : decode cX10_empties 2 = .ok (.iload_n 1, 1) := by decide +kernel
theorem dX10_empties_3 : decode cX10_empties 3 = .ok (.bipush 12, 2) := by decide +kernel
theorem dX10_empties_5 : decode cX10_empties 5 = .ok (.if_icmp .ge 17, 3) := by decide +kernel
theorem dX10_empties_8 : decode cX10_empties 8 = .ok (.aload_n 0, 1) := by decide +kernel
theorem dX10_empties_9 : decode cX10_empties 9 = .ok (.getfield 65, 3) := by decide +kernel
theorem dX10_empties_12 : decode cX10_empties 12 = .ok (.iload_n 1, 1) := by decide +kernel
theorem dX10_empties_13 : decode cX10_empties 13 = .ok (.bipush (-4), 2) := by decide +kernel
theorem dX10_empties_15 : decode cX10_empties 15 = .ok (.iastore, 1) := by decide +kernel
theorem dX10_empties_16 : decode cX10_empties 16 = .ok (.iinc 1 1, 3) := by decide +kernel
theorem dX10_empties_19 : decode cX10_empties 19 = .ok (.goto (-17), 3) := by decide +kernel
theorem dX10_empties_22 : decode cX10_empties 22 = .ok (.return_, 1) := by decide +kernel
theorem dX10_shelve_0 : decode cX10_shelve 0 = .ok (.iload_n 3, 1) := by decide +kernel
theorem dX10_shelve_1 : decode cX10_shelve 1 = .ok (.iconst 0, 1) := by decide +kernel
theorem dX10_shelve_2 : decode cX10_shelve 2 = .ok (.aload_n 0, 1) := by decide +kernel
theorem dX10_shelve_3 : decode cX10_shelve 3 = .ok (.getfield 16, 3) := by decide +kernel
theorem dX10_shelve_6 : decode cX10_shelve 6 = .ok (.iconst 0, 1) := by decide +kernel
theorem dX10_shelve_7 : decode cX10_shelve 7 = .ok (.iaload, 1) := by decide +kernel
theorem dX10_shelve_8 : decode cX10_shelve 8 = .ok (.iconst 1, 1) := by decide +kernel
theorem dX10_shelve_9 : decode cX10_shelve 9 = .ok (.isub, 1) := by decide +kernel
theorem dX10_shelve_10 : decode cX10_shelve 10 = .ok (.invokestatic 84, 3) := by decide +kernel
theorem dX10_shelve_13 : decode cX10_shelve 13 = .ok (.ifCond .ne 23, 3) := by decide +kernel
theorem dX10_shelve_16 : decode cX10_shelve 16 = .ok (.iload_n 3, 1) := by decide +kernel
theorem dX10_shelve_17 : decode cX10_shelve 17 = .ok (.bipush 8, 2) := by decide +kernel
theorem dX10_shelve_19 : decode cX10_shelve 19 = .ok (.bipush 8, 2) := by decide +kernel
theorem dX10_shelve_21 : decode cX10_shelve 21 = .ok (.aload_n 0, 1) := by decide +kernel
theorem dX10_shelve_22 : decode cX10_shelve 22 = .ok (.getfield 20, 3) := by decide +kernel
theorem dX10_shelve_25 : decode cX10_shelve 25 = .ok (.iconst 0, 1) := by decide +kernel
theorem dX10_shelve_26 : decode cX10_shelve 26 = .ok (.iaload, 1) := by decide +kernel
theorem dX10_shelve_27 : decode cX10_shelve 27 = .ok (.iadd, 1) := by decide +kernel
theorem dX10_shelve_28 : decode cX10_shelve 28 = .ok (.iconst 1, 1) := by decide +kernel
theorem dX10_shelve_29 : decode cX10_shelve 29 = .ok (.isub, 1) := by decide +kernel
theorem dX10_shelve_30 : decode cX10_shelve 30 = .ok (.invokestatic 84, 3) := by decide +kernel
theorem dX10_shelve_33 : decode cX10_shelve 33 = .ok (.ifCond .eq 7, 3) := by decide +kernel
theorem dX10_shelve_36 : decode cX10_shelve 36 = .ok (.iconst 1, 1) := by decide +kernel
theorem dX10_shelve_37 : decode cX10_shelve 37 = .ok (.goto 4, 3) := by decide +kernel
theorem dX10_shelve_40 : decode cX10_shelve 40 = .ok (.iconst 0, 1) := by decide +kernel
theorem dX10_shelve_41 : decode cX10_shelve 41 = .ok (.istore 4, 2) := by decide +kernel
theorem dX10_shelve_43 : decode cX10_shelve 43 = .ok (.iload_n 1, 1) := by decide +kernel
theorem dX10_shelve_44 : decode cX10_shelve 44 = .ok (.iconst 0, 1) := by decide +kernel
theorem dX10_shelve_45 : decode cX10_shelve 45 = .ok (.iconst 2, 1) := by decide +kernel
theorem dX10_shelve_46 : decode cX10_shelve 46 = .ok (.invokestatic 84, 3) := by decide +kernel
theorem dX10_shelve_49 : decode cX10_shelve 49 = .ok (.ifCond .eq 17, 3) := by decide +kernel
theorem dX10_shelve_52 : decode cX10_shelve 52 = .ok (.iload_n 2, 1) := by decide +kernel
theorem dX10_shelve_53 : decode cX10_shelve 53 = .ok (.iconst 0, 1) := by decide +kernel
theorem dX10_shelve_54 : decode cX10_shelve 54 = .ok (.iconst 3, 1) := by decide +kernel
theorem dX10_shelve_55 : decode cX10_shelve 55 = .ok (.invokestatic 84, 3) := by decide +kernel
theorem dX10_shelve_58 : decode cX10_shelve 58 = .ok (.ifCond .eq 8, 3) := by decide +kernel
theorem dX10_shelve_61 : decode cX10_shelve 61 = .ok (.iload 4, 2) := by decide +kernel
theorem dX10_shelve_63 : decode cX10_shelve 63 = .ok (.ifCond .ne 5, 3) := by decide +kernel
theorem dX10_shelve_66 : decode cX10_shelve 66 = .ok (.iconst (-1), 1) := by decide +kernel
theorem dX10_shelve_67 : decode cX10_shelve 67 = .ok (.ireturn, 1) := by decide +kernel
theorem dX10_shelve_68 : decode cX10_shelve 68 = .ok (.iload_n 1, 1) := by decide +kernel
theorem dX10_shelve_69 : decode cX10_shelve 69 = .ok (.iconst 2, 1) := by decide +kernel
theorem dX10_shelve_70 : decode cX10_shelve 70 = .ok (.if_icmp .ge 14, 3) := by decide +kernel
theorem dX10_shelve_73 : decode cX10_shelve 73 = .ok (.iload_n 3, 1) := by decide +kernel
theorem dX10_shelve_74 : decode cX10_shelve 74 = .ok (.bipush 8, 2) := by decide +kernel
theorem dX10_shelve_76 : decode cX10_shelve 76 = .ok (.idiv, 1) := by decide +kernel
theorem dX10_shelve_77 : decode cX10_shelve 77 = .ok (.iload_n 1, 1) := by decide +kernel
theorem dX10_shelve_78 : decode cX10_shelve 78 = .ok (.if_icmp .eq 6, 3) := by decide +kernel
theorem dX10_shelve_81 : decode cX10_shelve 81 = .ok (.bipush (-2), 2) := by decide +kernel
theorem dX10_shelve_83 : decode cX10_shelve 83 = .ok (.ireturn, 1) := by decide +kernel
theorem dX10_shelve_84 : decode cX10_shelve 84 = .ok (.aload_n 0, 1) := by decide +kernel
theorem dX10_shelve_85 : decode cX10_shelve 85 = .ok (.getfield 65, 3) := by decide +kernel
theorem dX10_shelve_88 : decode cX10_shelve 88 = .ok (.iconst 4, 1) := by decide +kernel
theorem dX10_shelve_89 : decode cX10_shelve 89 = .ok (.iload_n 1, 1) := by decide +kernel
theorem dX10_shelve_90 : decode cX10_shelve 90 = .ok (.imul, 1) := by decide +kernel
theorem dX10_shelve_91 : decode cX10_shelve 91 = .ok (.iload_n 2, 1) := by decide +kernel
theorem dX10_shelve_92 : decode cX10_shelve 92 = .ok (.iadd, 1) := by decide +kernel
theorem dX10_shelve_93 : decode cX10_shelve 93 = .ok (.iload_n 3, 1) := by decide +kernel
theorem dX10_shelve_94 : decode cX10_shelve 94 = .ok (.iastore, 1) := by decide +kernel
theorem dX10_shelve_95 : decode cX10_shelve 95 = .ok (.iconst 1, 1) := by decide +kernel
theorem dX10_shelve_96 : decode cX10_shelve 96 = .ok (.ireturn, 1) := by decide +kernel
theorem dX10_shelf_0 : decode cX10_shelf 0 = .ok (.iload_n 1, 1) := by decide +kernel
theorem dX10_shelf_1 : decode cX10_shelf 1 = .ok (.iconst 0, 1) := by decide +kernel
theorem dX10_shelf_2 : decode cX10_shelf 2 = .ok (.iconst 2, 1) := by decide +kernel
theorem dX10_shelf_3 : decode cX10_shelf 3 = .ok (.invokestatic 84, 3) := by decide +kernel
theorem dX10_shelf_6 : decode cX10_shelf 6 = .ok (.ifCond .eq 25, 3) := by decide +kernel
theorem dX10_shelf_9 : decode cX10_shelf 9 = .ok (.iload_n 2, 1) := by decide +kernel
theorem dX10_shelf_10 : decode cX10_shelf 10 = .ok (.iconst 0, 1) := by decide +kernel
theorem dX10_shelf_11 : decode cX10_shelf 11 = .ok (.iconst 3, 1) := by decide +kernel
theorem dX10_shelf_12 : decode cX10_shelf 12 = .ok (.invokestatic 84, 3) := by decide +kernel
theorem dX10_shelf_15 : decode cX10_shelf 15 = .ok (.ifCond .eq 16, 3) := by decide +kernel
theorem dX10_shelf_18 : decode cX10_shelf 18 = .ok (.aload_n 0, 1) := by decide +kernel
theorem dX10_shelf_19 : decode cX10_shelf 19 = .ok (.getfield 65, 3) := by decide +kernel
theorem dX10_shelf_22 : decode cX10_shelf 22 = .ok (.iconst 4, 1) := by decide +kernel
theorem dX10_shelf_23 : decode cX10_shelf 23 = .ok (.iload_n 1, 1) := by decide +kernel
theorem dX10_shelf_24 : decode cX10_shelf 24 = .ok (.imul, 1) := by decide +kernel
theorem dX10_shelf_25 : decode cX10_shelf 25 = .ok (.iload_n 2, 1) := by decide +kernel
theorem dX10_shelf_26 : decode cX10_shelf 26 = .ok (.iadd, 1) := by decide +kernel
theorem dX10_shelf_27 : decode cX10_shelf 27 = .ok (.iaload, 1) := by decide +kernel
theorem dX10_shelf_28 : decode cX10_shelf 28 = .ok (.goto 4, 3) := by decide +kernel
theorem dX10_shelf_31 : decode cX10_shelf 31 = .ok (.iconst (-1), 1) := by decide +kernel
theorem dX10_shelf_32 : decode cX10_shelf 32 = .ok (.ireturn, 1) := by decide +kernel
theorem dX10_thingMany_0 : decode cX10_thingMany 0 = .ok (.iconst 0, 1) := by decide +kernel
theorem dX10_thingMany_1 : decode cX10_thingMany 1 = .ok (.istore_n 1, 1) := by decide +kernel
theorem dX10_thingMany_2 : decode cX10_thingMany 2 = .ok (.iconst 0, 1) := by decide +kernel
theorem dX10_thingMany_3 : decode cX10_thingMany 3 = .ok (.istore_n 2, 1) := by decide +kernel
theorem dX10_thingMany_4 : decode cX10_thingMany 4 = .ok (.iload_n 2, 1) := by decide +kernel
theorem dX10_thingMany_5 : decode cX10_thingMany 5 = .ok (.bipush 12, 2) := by decide +kernel
theorem dX10_thingMany_7 : decode cX10_thingMany 7 = .ok (.if_icmp .ge 28, 3) := by decide +kernel
theorem dX10_thingMany_10 : decode cX10_thingMany 10 = .ok (.iload_n 1, 1) := by decide +kernel
theorem dX10_thingMany_11 : decode cX10_thingMany 11 = .ok (.aload_n 0, 1) := by decide +kernel
theorem dX10_thingMany_12 : decode cX10_thingMany 12 = .ok (.getfield 65, 3) := by decide +kernel
theorem dX10_thingMany_15 : decode cX10_thingMany 15 = .ok (.iload_n 2, 1) := by decide +kernel
theorem dX10_thingMany_16 : decode cX10_thingMany 16 = .ok (.iaload, 1) := by decide +kernel
theorem dX10_thingMany_17 : decode cX10_thingMany 17 = .ok (.bipush (-4), 2) := by decide +kernel
theorem dX10_thingMany_19 : decode cX10_thingMany 19 = .ok (.if_icmp .ne 7, 3) := by decide +kernel
theorem dX10_thingMany_22 : decode cX10_thingMany 22 = .ok (.iconst 0, 1) := by decide +kernel
theorem dX10_thingMany_23 : decode cX10_thingMany 23 = .ok (.goto 4, 3) := by decide +kernel
theorem dX10_thingMany_26 : decode cX10_thingMany 26 = .ok (.iconst 1, 1) := by decide +kernel
theorem dX10_thingMany_27 : decode cX10_thingMany 27 = .ok (.iadd, 1) := by decide +kernel
theorem dX10_thingMany_28 : decode cX10_thingMany 28 = .ok (.istore_n 1, 1) := by decide +kernel
theorem dX10_thingMany_29 : decode cX10_thingMany 29 = .ok (.iinc 2 1, 3) := by decide +kernel
theorem dX10_thingMany_32 : decode cX10_thingMany 32 = .ok (.goto (-28), 3) := by decide +kernel
theorem dX10_thingMany_35 : decode cX10_thingMany 35 = .ok (.iload_n 1, 1) := by decide +kernel
theorem dX10_thingMany_36 : decode cX10_thingMany 36 = .ok (.ireturn, 1) := by decide +kernel
theorem dX10_day_0 : decode cX10_day 0 = .ok (.iload_n 1, 1) := by decide +kernel
theorem dX10_day_1 : decode cX10_day 1 = .ok (.iconst 0, 1) := by decide +kernel
theorem dX10_day_2 : decode cX10_day 2 = .ok (.sipush 9999, 3) := by decide +kernel
theorem dX10_day_5 : decode cX10_day 5 = .ok (.invokestatic 84, 3) := by decide +kernel
theorem dX10_day_8 : decode cX10_day 8 = .ok (.ifCond .eq 22, 3) := by decide +kernel
theorem dX10_day_11 : decode cX10_day 11 = .ok (.iload_n 2, 1) := by decide +kernel
theorem dX10_day_12 : decode cX10_day 12 = .ok (.iconst 1, 1) := by decide +kernel
theorem dX10_day_13 : decode cX10_day 13 = .ok (.bipush 20, 2) := by decide +kernel
theorem dX10_day_15 : decode cX10_day 15 = .ok (.invokestatic 84, 3) := by decide +kernel
theorem dX10_day_18 : decode cX10_day 18 = .ok (.ifCond .eq 12, 3) := by decide +kernel
theorem dX10_day_21 : decode cX10_day 21 = .ok (.iload_n 3, 1) := by decide +kernel
theorem dX10_day_22 : decode cX10_day 22 = .ok (.iconst 0, 1) := by decide +kernel
theorem dX10_day_23 : decode cX10_day 23 = .ok (.iconst 1, 1) := by decide +kernel
theorem dX10_day_24 : decode cX10_day 24 = .ok (.invokestatic 84, 3) := by decide +kernel
theorem dX10_day_27 : decode cX10_day 27 = .ok (.ifCond .ne 5, 3) := by decide +kernel
theorem dX10_day_30 : decode cX10_day 30 = .ok (.iconst (-1), 1) := by decide +kernel
theorem dX10_day_31 : decode cX10_day 31 = .ok (.ireturn, 1) := by decide +kernel
theorem dX10_day_32 : decode cX10_day 32 = .ok (.aload_n 0, 1) := by decide +kernel
theorem dX10_day_33 : decode cX10_day 33 = .ok (.aload_n 0, 1) := by decide +kernel
theorem dX10_day_34 : decode cX10_day 34 = .ok (.getfield 47, 3) := by decide +kernel
theorem dX10_day_37 : decode cX10_day 37 = .ok (.iconst 0, 1) := by decide +kernel
theorem dX10_day_38 : decode cX10_day 38 = .ok (.invokevirtual 110, 3) := by decide +kernel
theorem dX10_day_41 : decode cX10_day 41 = .ok (.iconst 0, 1) := by decide +kernel
theorem dX10_day_42 : decode cX10_day 42 = .ok (.istore 4, 2) := by decide +kernel
theorem dX10_day_44 : decode cX10_day 44 = .ok (.iload 4, 2) := by decide +kernel
theorem dX10_day_46 : decode cX10_day 46 = .ok (.iload_n 2, 1) := by decide +kernel
theorem dX10_day_47 : decode cX10_day 47 = .ok (.if_icmp .ge 96, 3) := by decide +kernel
theorem dX10_day_50 : decode cX10_day 50 = .ok (.ldc2_w 232, 3) := by decide +kernel
theorem dX10_day_53 : decode cX10_day 53 = .ok (.iload_n 1, 1) := by decide +kernel
theorem dX10_day_54 : decode cX10_day 54 = .ok (.i2l, 1) := by decide +kernel
theorem dX10_day_55 : decode cX10_day 55 = .ok (.lmul, 1) := by decide +kernel
theorem dX10_day_56 : decode cX10_day 56 = .ok (.ldc2_w 234, 3) := by decide +kernel
theorem dX10_day_59 : decode cX10_day 59 = .ok (.iload 4, 2) := by decide +kernel
theorem dX10_day_61 : decode cX10_day 61 = .ok (.i2l, 1) := by decide +kernel
theorem dX10_day_62 : decode cX10_day 62 = .ok (.lmul, 1) := by decide +kernel
theorem dX10_day_63 : decode cX10_day 63 = .ok (.ladd, 1) := by decide +kernel
theorem dX10_day_64 : decode cX10_day 64 = .ok (.lconst 1, 1) := by decide +kernel
theorem dX10_day_65 : decode cX10_day 65 = .ok (.ladd, 1) := by decide +kernel
theorem dX10_day_66 : decode cX10_day 66 = .ok (.lstore 5, 2) := by decide +kernel
theorem dX10_day_68 : decode cX10_day 68 = .ok (.lload 5, 2) := by decide +kernel
theorem dX10_day_70 : decode cX10_day 70 = .ok (.lload 5, 2) := by decide +kernel
theorem dX10_day_72 : decode cX10_day 72 = .ok (.lmul, 1) := by decide +kernel
theorem dX10_day_73 : decode cX10_day 73 = .ok (.ldc2_w 236, 3) := by decide +kernel
theorem dX10_day_76 : decode cX10_day 76 = .ok (.lrem, 1) := by decide +kernel
theorem dX10_day_77 : decode cX10_day 77 = .ok (.l2i, 1) := by decide +kernel
theorem dX10_day_78 : decode cX10_day 78 = .ok (.istore 7, 2) := by decide +kernel
theorem dX10_day_80 : decode cX10_day 80 = .ok (.iload 7, 2) := by decide +kernel
theorem dX10_day_82 : decode cX10_day 82 = .ok (.iconst 2, 1) := by decide +kernel
theorem dX10_day_83 : decode cX10_day 83 = .ok (.irem, 1) := by decide +kernel
theorem dX10_day_84 : decode cX10_day 84 = .ok (.istore 8, 2) := by decide +kernel
theorem dX10_day_86 : decode cX10_day 86 = .ok (.bipush 8, 2) := by decide +kernel
theorem dX10_day_88 : decode cX10_day 88 = .ok (.iload 8, 2) := by decide +kernel
theorem dX10_day_90 : decode cX10_day 90 = .ok (.imul, 1) := by decide +kernel
theorem dX10_day_91 : decode cX10_day 91 = .ok (.iload 7, 2) := by decide +kernel
theorem dX10_day_93 : decode cX10_day 93 = .ok (.iconst 2, 1) := by decide +kernel
theorem dX10_day_94 : decode cX10_day 94 = .ok (.idiv, 1) := by decide +kernel
theorem dX10_day_95 : decode cX10_day 95 = .ok (.aload_n 0, 1) := by decide +kernel
theorem dX10_day_96 : decode cX10_day 96 = .ok (.getfield 16, 3) := by decide +kernel
theorem dX10_day_99 : decode cX10_day 99 = .ok (.iload 8, 2) := by decide +kernel
theorem dX10_day_101 : decode cX10_day 101 = .ok (.iaload, 1) := by decide +kernel
theorem dX10_day_102 : decode cX10_day 102 = .ok (.irem, 1) := by decide +kernel
theorem dX10_day_103 : decode cX10_day 103 = .ok (.iadd, 1) := by decide +kernel
theorem dX10_day_104 : decode cX10_day 104 = .ok (.istore 9, 2) := by decide +kernel
theorem dX10_day_106 : decode cX10_day 106 = .ok (.aload_n 0, 1) := by decide +kernel
theorem dX10_day_107 : decode cX10_day 107 = .ok (.getfield 26, 3) := by decide +kernel
theorem dX10_day_110 : decode cX10_day 110 = .ok (.iload 9, 2) := by decide +kernel
theorem dX10_day_112 : decode cX10_day 112 = .ok (.iload 7, 2) := by decide +kernel
theorem dX10_day_114 : decode cX10_day 114 = .ok (.bipush 16, 2) := by decide +kernel
theorem dX10_day_116 : decode cX10_day 116 = .ok (.idiv, 1) := by decide +kernel
theorem dX10_day_117 : decode cX10_day 117 = .ok (.bipush 61, 2) := by decide +kernel
theorem dX10_day_119 : decode cX10_day 119 = .ok (.irem, 1) := by decide +kernel
theorem dX10_day_120 : decode cX10_day 120 = .ok (.iastore, 1) := by decide +kernel
theorem dX10_day_121 : decode cX10_day 121 = .ok (.aload_n 0, 1) := by decide +kernel
theorem dX10_day_122 : decode cX10_day 122 = .ok (.getfield 29, 3) := by decide +kernel
theorem dX10_day_125 : decode cX10_day 125 = .ok (.iload 9, 2) := by decide +kernel
theorem dX10_day_127 : decode cX10_day 127 = .ok (.iload 7, 2) := by decide +kernel
theorem dX10_day_129 : decode cX10_day 129 = .ok (.sipush 256, 3) := by decide +kernel
theorem dX10_day_132 : decode cX10_day 132 = .ok (.idiv, 1) := by decide +kernel
theorem dX10_day_133 : decode cX10_day 133 = .ok (.bipush 61, 2) := by decide +kernel
theorem dX10_day_135 : decode cX10_day 135 = .ok (.irem, 1) := by decide +kernel
theorem dX10_day_136 : decode cX10_day 136 = .ok (.iastore, 1) := by decide +kernel
theorem dX10_day_137 : decode cX10_day 137 = .ok (.iinc 4 1, 3) := by decide +kernel
theorem dX10_day_140 : decode cX10_day 140 = .ok (.goto (-96), 3) := by decide +kernel
theorem dX10_day_143 : decode cX10_day 143 = .ok (.aload_n 0, 1) := by decide +kernel
theorem dX10_day_144 : decode cX10_day 144 = .ok (.invokevirtual 156, 3) := by decide +kernel
theorem dX10_day_147 : decode cX10_day 147 = .ok (.iload_n 3, 1) := by decide +kernel
theorem dX10_day_148 : decode cX10_day 148 = .ok (.ifCond .ne 10, 3) := by decide +kernel
theorem dX10_day_151 : decode cX10_day 151 = .ok (.aload_n 0, 1) := by decide +kernel
theorem dX10_day_152 : decode cX10_day 152 = .ok (.invokevirtual 216, 3) := by decide +kernel
theorem dX10_day_155 : decode cX10_day 155 = .ok (.goto 7, 3) := by decide +kernel
theorem dX10_day_158 : decode cX10_day 158 = .ok (.aload_n 0, 1) := by decide +kernel
theorem dX10_day_159 : decode cX10_day 159 = .ok (.invokevirtual 219, 3) := by decide +kernel
theorem dX10_day_162 : decode cX10_day 162 = .ok (.istore 4, 2) := by decide +kernel
theorem dX10_day_164 : decode cX10_day 164 = .ok (.aload_n 0, 1) := by decide +kernel
theorem dX10_day_165 : decode cX10_day 165 = .ok (.aload_n 0, 1) := by decide +kernel
theorem dX10_day_166 : decode cX10_day 166 = .ok (.getfield 47, 3) := by decide +kernel
theorem dX10_day_169 : decode cX10_day 169 = .ok (.iconst 0, 1) := by decide +kernel
theorem dX10_day_170 : decode cX10_day 170 = .ok (.invokevirtual 125, 3) := by decide +kernel
theorem dX10_day_173 : decode cX10_day 173 = .ok (.iload 4, 2) := by decide +kernel
theorem dX10_day_175 : decode cX10_day 175 = .ok (.ireturn, 1) := by decide +kernel
theorem dX10_count_0 : decode cX10_count 0 = .ok (.iload_n 1, 1) := by decide +kernel
theorem dX10_count_1 : decode cX10_count 1 = .ok (.iconst 0, 1) := by decide +kernel
theorem dX10_count_2 : decode cX10_count 2 = .ok (.bipush 9, 2) := by decide +kernel
theorem dX10_count_4 : decode cX10_count 4 = .ok (.invokestatic 84, 3) := by decide +kernel
theorem dX10_count_7 : decode cX10_count 7 = .ok (.ifCond .ne 5, 3) := by decide +kernel
theorem dX10_count_10 : decode cX10_count 10 = .ok (.iconst (-1), 1) := by decide +kernel
theorem dX10_count_11 : decode cX10_count 11 = .ok (.ireturn, 1) := by decide +kernel
theorem dX10_count_12 : decode cX10_count 12 = .ok (.iload_n 1, 1) := by decide +kernel
theorem dX10_count_13 : decode cX10_count 13 = .ok (.tableswitch 92 0 8 #[51, 51, 58, 58, 67, 72, 77, 82, 87], 51) := by decide +kernel
theorem dX10_count_64 : decode cX10_count 64 = .ok (.aload_n 0, 1) := by decide +kernel
theorem dX10_count_65 : decode cX10_count 65 = .ok (.getfield 16, 3) := by decide +kernel
theorem dX10_count_68 : decode cX10_count 68 = .ok (.iload_n 1, 1) := by decide +kernel
theorem dX10_count_69 : decode cX10_count 69 = .ok (.iaload, 1) := by decide +kernel
theorem dX10_count_70 : decode cX10_count 70 = .ok (.ireturn, 1) := by decide +kernel
theorem dX10_count_71 : decode cX10_count 71 = .ok (.aload_n 0, 1) := by decide +kernel
theorem dX10_count_72 : decode cX10_count 72 = .ok (.getfield 20, 3) := by decide +kernel
theorem dX10_count_75 : decode cX10_count 75 = .ok (.iload_n 1, 1) := by decide +kernel
theorem dX10_count_76 : decode cX10_count 76 = .ok (.iconst 2, 1) := by decide +kernel
theorem dX10_count_77 : decode cX10_count 77 = .ok (.isub, 1) := by decide +kernel
theorem dX10_count_78 : decode cX10_count 78 = .ok (.iaload, 1) := by decide +kernel
theorem dX10_count_79 : decode cX10_count 79 = .ok (.ireturn, 1) := by decide +kernel
theorem dX10_count_80 : decode cX10_count 80 = .ok (.aload_n 0, 1) := by decide +kernel
theorem dX10_count_81 : decode cX10_count 81 = .ok (.getfield 7, 3) := by decide +kernel
theorem dX10_count_84 : decode cX10_count 84 = .ok (.ireturn, 1) := by decide +kernel
theorem dX10_count_85 : decode cX10_count 85 = .ok (.aload_n 0, 1) := by decide +kernel
theorem dX10_count_86 : decode cX10_count 86 = .ok (.getfield 13, 3) := by decide +kernel
theorem dX10_count_89 : decode cX10_count 89 = .ok (.ireturn, 1) := by decide +kernel
theorem dX10_count_90 : decode cX10_count 90 = .ok (.aload_n 0, 1) := by decide +kernel
theorem dX10_count_91 : decode cX10_count 91 = .ok (.getfield 107, 3) := by decide +kernel
theorem dX10_count_94 : decode cX10_count 94 = .ok (.ireturn, 1) := by decide +kernel
theorem dX10_count_95 : decode cX10_count 95 = .ok (.aload_n 0, 1) := by decide +kernel
theorem dX10_count_96 : decode cX10_count 96 = .ok (.getfield 128, 3) := by decide +kernel
theorem dX10_count_99 : decode cX10_count 99 = .ok (.ireturn, 1) := by decide +kernel
theorem dX10_count_100 : decode cX10_count 100 = .ok (.aload_n 0, 1) := by decide +kernel
theorem dX10_count_101 : decode cX10_count 101 = .ok (.getfield 238, 3) := by decide +kernel
theorem dX10_count_104 : decode cX10_count 104 = .ok (.ireturn, 1) := by decide +kernel
theorem dX10_count_105 : decode cX10_count 105 = .ok (.aload_n 0, 1) := by decide +kernel
theorem dX10_count_106 : decode cX10_count 106 = .ok (.invokevirtual 241, 3) := by decide +kernel
theorem dX10_count_109 : decode cX10_count 109 = .ok (.ireturn, 1) := by decide +kernel
theorem dX10_write_0 : decode cX10_write 0 = .ok (.iload_n 1, 1) := by decide +kernel
theorem dX10_write_1 : decode cX10_write 1 = .ok (.bipush 32, 2) := by decide +kernel
theorem dX10_write_3 : decode cX10_write 3 = .ok (.bipush 126, 2) := by decide +kernel
theorem dX10_write_5 : decode cX10_write 5 = .ok (.invokestatic 84, 3) := by decide +kernel
theorem dX10_write_8 : decode cX10_write 8 = .ok (.ifCond .ne 5, 3) := by decide +kernel
theorem dX10_write_11 : decode cX10_write 11 = .ok (.iconst (-1), 1) := by decide +kernel
theorem dX10_write_12 : decode cX10_write 12 = .ok (.ireturn, 1) := by decide +kernel
theorem dX10_write_13 : decode cX10_write 13 = .ok (.aload_n 0, 1) := by decide +kernel
theorem dX10_write_14 : decode cX10_write 14 = .ok (.getfield 238, 3) := by decide +kernel
theorem dX10_write_17 : decode cX10_write 17 = .ok (.sipush 200, 3) := by decide +kernel
theorem dX10_write_20 : decode cX10_write 20 = .ok (.if_icmp .ne 6, 3) := by decide +kernel
theorem dX10_write_23 : decode cX10_write 23 = .ok (.bipush (-3), 2) := by decide +kernel
theorem dX10_write_25 : decode cX10_write 25 = .ok (.ireturn, 1) := by decide +kernel
theorem dX10_write_26 : decode cX10_write 26 = .ok (.aload_n 0, 1) := by decide +kernel
theorem dX10_write_27 : decode cX10_write 27 = .ok (.getfield 68, 3) := by decide +kernel
theorem dX10_write_30 : decode cX10_write 30 = .ok (.aload_n 0, 1) := by decide +kernel
theorem dX10_write_31 : decode cX10_write 31 = .ok (.getfield 238, 3) := by decide +kernel
theorem dX10_write_34 : decode cX10_write 34 = .ok (.iload_n 1, 1) := by decide +kernel
theorem dX10_write_35 : decode cX10_write 35 = .ok (.iastore, 1) := by decide +kernel
theorem dX10_write_36 : decode cX10_write 36 = .ok (.aload_n 0, 1) := by decide +kernel
theorem dX10_write_37 : decode cX10_write 37 = .ok (.dup, 1) := by decide +kernel
theorem dX10_write_38 : decode cX10_write 38 = .ok (.getfield 238, 3) := by decide +kernel
theorem dX10_write_41 : decode cX10_write 41 = .ok (.iconst 1, 1) := by decide +kernel
theorem dX10_write_42 : decode cX10_write 42 = .ok (.iadd, 1) := by decide +kernel
theorem dX10_write_43 : decode cX10_write 43 = .ok (.putfield 238, 3) := by decide +kernel
theorem dX10_write_46 : decode cX10_write 46 = .ok (.aload_n 0, 1) := by decide +kernel
theorem dX10_write_47 : decode cX10_write 47 = .ok (.getfield 238, 3) := by decide +kernel
theorem dX10_write_50 : decode cX10_write 50 = .ok (.ireturn, 1) := by decide +kernel
theorem dX10_wipe_0 : decode cX10_wipe 0 = .ok (.aload_n 0, 1) := by decide +kernel
theorem dX10_wipe_1 : decode cX10_wipe 1 = .ok (.getfield 238, 3) := by decide +kernel
theorem dX10_wipe_4 : decode cX10_wipe 4 = .ok (.istore_n 1, 1) := by decide +kernel
theorem dX10_wipe_5 : decode cX10_wipe 5 = .ok (.aload_n 0, 1) := by decide +kernel
theorem dX10_wipe_6 : decode cX10_wipe 6 = .ok (.iconst 0, 1) := by decide +kernel
theorem dX10_wipe_7 : decode cX10_wipe 7 = .ok (.putfield 238, 3) := by decide +kernel
theorem dX10_wipe_10 : decode cX10_wipe 10 = .ok (.iload_n 1, 1) := by decide +kernel
theorem dX10_wipe_11 : decode cX10_wipe 11 = .ok (.ireturn, 1) := by decide +kernel
theorem dX10_here_0 : decode cX10_here 0 = .ok (.aload_n 0, 1) := by decide +kernel
theorem dX10_here_1 : decode cX10_here 1 = .ok (.getfield 244, 3) := by decide +kernel
theorem dX10_here_4 : decode cX10_here 4 = .ok (.aload_n 0, 1) := by decide +kernel
theorem dX10_here_5 : decode cX10_here 5 = .ok (.getfield 238, 3) := by decide +kernel
theorem dX10_here_8 : decode cX10_here 8 = .ok (.if_icmp .ge 15, 3) := by decide +kernel
theorem dX10_here_11 : decode cX10_here 11 = .ok (.aload_n 0, 1) := by decide +kernel
theorem dX10_here_12 : decode cX10_here 12 = .ok (.getfield 68, 3) := by decide +kernel
theorem dX10_here_15 : decode cX10_here 15 = .ok (.aload_n 0, 1) := by decide +kernel
theorem dX10_here_16 : decode cX10_here 16 = .ok (.getfield 244, 3) := by decide +kernel
theorem dX10_here_19 : decode cX10_here 19 = .ok (.iaload, 1) := by decide +kernel
theorem dX10_here_20 : decode cX10_here 20 = .ok (.goto 4, 3) := by decide +kernel
theorem dX10_here_23 : decode cX10_here 23 = .ok (.iconst 0, 1) := by decide +kernel
theorem dX10_here_24 : decode cX10_here 24 = .ok (.ireturn, 1) := by decide +kernel
theorem dX10_isFigure_0 : decode cX10_isFigure 0 = .ok (.aload_n 0, 1) := by decide +kernel
theorem dX10_isFigure_1 : decode cX10_isFigure 1 = .ok (.invokevirtual 247, 3) := by decide +kernel
theorem dX10_isFigure_4 : decode cX10_isFigure 4 = .ok (.bipush 48, 2) := by decide +kernel
theorem dX10_isFigure_6 : decode cX10_isFigure 6 = .ok (.bipush 57, 2) := by decide +kernel
theorem dX10_isFigure_8 : decode cX10_isFigure 8 = .ok (.invokestatic 84, 3) := by decide +kernel
theorem dX10_isFigure_11 : decode cX10_isFigure 11 = .ok (.ireturn, 1) := by decide +kernel
theorem dX10_number_0 : decode cX10_number 0 = .ok (.aload_n 0, 1) := by decide +kernel
theorem dX10_number_1 : decode cX10_number 1 = .ok (.invokevirtual 250, 3) := by decide +kernel
theorem dX10_number_4 : decode cX10_number 4 = .ok (.ifCond .ne 5, 3) := by decide +kernel
theorem dX10_number_7 : decode cX10_number 7 = .ok (.iconst 0, 1) := by decide +kernel
theorem dX10_number_8 : decode cX10_number 8 = .ok (.ireturn, 1) := by decide +kernel
theorem dX10_number_9 : decode cX10_number 9 = .ok (.aload_n 0, 1) := by decide +kernel
theorem dX10_number_10 : decode cX10_number 10 = .ok (.invokevirtual 247, 3) := by decide +kernel
theorem dX10_number_13 : decode cX10_number 13 = .ok (.bipush 48, 2) := by decide +kernel
theorem dX10_number_15 : decode cX10_number 15 = .ok (.isub, 1) := by decide +kernel
theorem dX10_number_16 : decode cX10_number 16 = .ok (.istore 4, 2) := by decide +kernel
theorem dX10_number_18 : decode cX10_number 18 = .ok (.aload_n 0, 1) := by decide +kernel
theorem dX10_number_19 : decode cX10_number 19 = .ok (.dup, 1) := by decide +kernel
theorem dX10_number_20 : decode cX10_number 20 = .ok (.getfield 244, 3) := by decide +kernel
theorem dX10_number_23 : decode cX10_number 23 = .ok (.iconst 1, 1) := by decide +kernel
theorem dX10_number_24 : decode cX10_number 24 = .ok (.iadd, 1) := by decide +kernel
theorem dX10_number_25 : decode cX10_number 25 = .ok (.putfield 244, 3) := by decide +kernel
theorem dX10_number_28 : decode cX10_number 28 = .ok (.aload_n 0, 1) := by decide +kernel
theorem dX10_number_29 : decode cX10_number 29 = .ok (.invokevirtual 250, 3) := by decide +kernel
theorem dX10_number_32 : decode cX10_number 32 = .ok (.ifCond .eq 28, 3) := by decide +kernel
theorem dX10_number_35 : decode cX10_number 35 = .ok (.bipush 10, 2) := by decide +kernel
theorem dX10_number_37 : decode cX10_number 37 = .ok (.iload 4, 2) := by decide +kernel
theorem dX10_number_39 : decode cX10_number 39 = .ok (.imul, 1) := by decide +kernel
theorem dX10_number_40 : decode cX10_number 40 = .ok (.aload_n 0, 1) := by decide +kernel
theorem dX10_number_41 : decode cX10_number 41 = .ok (.invokevirtual 247, 3) := by decide +kernel
theorem dX10_number_44 : decode cX10_number 44 = .ok (.iadd, 1) := by decide +kernel
theorem dX10_number_45 : decode cX10_number 45 = .ok (.bipush 48, 2) := by decide +kernel
theorem dX10_number_47 : decode cX10_number 47 = .ok (.isub, 1) := by decide +kernel
theorem dX10_number_48 : decode cX10_number 48 = .ok (.istore 4, 2) := by decide +kernel
theorem dX10_number_50 : decode cX10_number 50 = .ok (.aload_n 0, 1) := by decide +kernel
theorem dX10_number_51 : decode cX10_number 51 = .ok (.dup, 1) := by decide +kernel
theorem dX10_number_52 : decode cX10_number 52 = .ok (.getfield 244, 3) := by decide +kernel
theorem dX10_number_55 : decode cX10_number 55 = .ok (.iconst 1, 1) := by decide +kernel
theorem dX10_number_56 : decode cX10_number 56 = .ok (.iadd, 1) := by decide +kernel
theorem dX10_number_57 : decode cX10_number 57 = .ok (.putfield 244, 3) := by decide +kernel
theorem dX10_number_60 : decode cX10_number 60 = .ok (.aload_n 0, 1) := by decide +kernel
theorem dX10_number_61 : decode cX10_number 61 = .ok (.iload 4, 2) := by decide +kernel
theorem dX10_number_63 : decode cX10_number 63 = .ok (.putfield 253, 3) := by decide +kernel
theorem dX10_number_66 : decode cX10_number 66 = .ok (.aload_n 0, 1) := by decide +kernel
theorem dX10_number_67 : decode cX10_number 67 = .ok (.invokevirtual 247, 3) := by decide +kernel
theorem dX10_number_70 : decode cX10_number 70 = .ok (.iload_n 3, 1) := by decide +kernel
theorem dX10_number_71 : decode cX10_number 71 = .ok (.if_icmp .ne 13, 3) := by decide +kernel
theorem dX10_number_74 : decode cX10_number 74 = .ok (.iload 4, 2) := by decide +kernel
theorem dX10_number_76 : decode cX10_number 76 = .ok (.iload_n 1, 1) := by decide +kernel
theorem dX10_number_77 : decode cX10_number 77 = .ok (.iload_n 2, 1) := by decide +kernel
theorem dX10_number_78 : decode cX10_number 78 = .ok (.invokestatic 84, 3) := by decide +kernel
theorem dX10_number_81 : decode cX10_number 81 = .ok (.ifCond .ne 5, 3) := by decide +kernel
theorem dX10_number_84 : decode cX10_number 84 = .ok (.iconst 0, 1) := by decide +kernel
theorem dX10_number_85 : decode cX10_number 85 = .ok (.ireturn, 1) := by decide +kernel
theorem dX10_number_86 : decode cX10_number 86 = .ok (.aload_n 0, 1) := by decide +kernel
theorem dX10_number_87 : decode cX10_number 87 = .ok (.dup, 1) := by decide +kernel
theorem dX10_number_88 : decode cX10_number 88 = .ok (.getfield 244, 3) := by decide +kernel
theorem dX10_number_91 : decode cX10_number 91 = .ok (.iconst 1, 1) := by decide +kernel
theorem dX10_number_92 : decode cX10_number 92 = .ok (.iadd, 1) := by decide +kernel
theorem dX10_number_93 : decode cX10_number 93 = .ok (.putfield 244, 3) := by decide +kernel
theorem dX10_number_96 : decode cX10_number 96 = .ok (.iconst 1, 1) := by decide +kernel
theorem dX10_number_97 : decode cX10_number 97 = .ok (.ireturn, 1) := by decide +kernel
theorem dX10_readsMeeting_0 : decode cX10_readsMeeting 0 = .ok (.aload_n 0, 1) := by decide +kernel
theorem dX10_readsMeeting_1 : decode cX10_readsMeeting 1 = .ok (.getfield 16, 3) := by decide +kernel
theorem dX10_readsMeeting_4 : decode cX10_readsMeeting 4 = .ok (.iload_n 1, 1) := by decide +kernel
theorem dX10_readsMeeting_5 : decode cX10_readsMeeting 5 = .ok (.iaload, 1) := by decide +kernel
theorem dX10_readsMeeting_6 : decode cX10_readsMeeting 6 = .ok (.bipush 8, 2) := by decide +kernel
theorem dX10_readsMeeting_8 : decode cX10_readsMeeting 8 = .ok (.if_icmp .eq 14, 3) := by decide +kernel
theorem dX10_readsMeeting_11 : decode cX10_readsMeeting 11 = .ok (.aload_n 0, 1) := by decide +kernel
theorem dX10_readsMeeting_12 : decode cX10_readsMeeting 12 = .ok (.iconst 0, 1) := by decide +kernel
theorem dX10_readsMeeting_13 : decode cX10_readsMeeting 13 = .ok (.iconst 3, 1) := by decide +kernel
theorem dX10_readsMeeting_14 : decode cX10_readsMeeting 14 = .ok (.bipush 44, 2) := by decide +kernel
theorem dX10_readsMeeting_16 : decode cX10_readsMeeting 16 = .ok (.invokevirtual 256, 3) := by decide +kernel
theorem dX10_readsMeeting_19 : decode cX10_readsMeeting 19 = .ok (.ifCond .ne 5, 3) := by decide +kernel
theorem dX10_readsMeeting_22 : decode cX10_readsMeeting 22 = .ok (.iconst 0, 1) := by decide +kernel
theorem dX10_readsMeeting_23 : decode cX10_readsMeeting 23 = .ok (.ireturn, 1) := by decide +kernel
theorem dX10_readsMeeting_24 : decode cX10_readsMeeting 24 = .ok (.aload_n 0, 1) := by decide +kernel
theorem dX10_readsMeeting_25 : decode cX10_readsMeeting 25 = .ok (.getfield 253, 3) := by decide +kernel
theorem dX10_readsMeeting_28 : decode cX10_readsMeeting 28 = .ok (.istore_n 2, 1) := by decide +kernel
theorem dX10_readsMeeting_29 : decode cX10_readsMeeting 29 = .ok (.aload_n 0, 1) := by decide +kernel
theorem dX10_readsMeeting_30 : decode cX10_readsMeeting 30 = .ok (.iconst 0, 1) := by decide +kernel
theorem dX10_readsMeeting_31 : decode cX10_readsMeeting 31 = .ok (.bipush 60, 2) := by decide +kernel
theorem dX10_readsMeeting_33 : decode cX10_readsMeeting 33 = .ok (.bipush 44, 2) := by decide +kernel
theorem dX10_readsMeeting_35 : decode cX10_readsMeeting 35 = .ok (.invokevirtual 256, 3) := by decide +kernel
theorem dX10_readsMeeting_38 : decode cX10_readsMeeting 38 = .ok (.ifCond .ne 5, 3) := by decide +kernel
theorem dX10_readsMeeting_41 : decode cX10_readsMeeting 41 = .ok (.iconst 0, 1) := by decide +kernel
theorem dX10_readsMeeting_42 : decode cX10_readsMeeting 42 = .ok (.ireturn, 1) := by decide +kernel
theorem dX10_readsMeeting_43 : decode cX10_readsMeeting 43 = .ok (.aload_n 0, 1) := by decide +kernel
theorem dX10_readsMeeting_44 : decode cX10_readsMeeting 44 = .ok (.getfield 253, 3) := by decide +kernel
theorem dX10_readsMeeting_47 : decode cX10_readsMeeting 47 = .ok (.istore_n 3, 1) := by decide +kernel
theorem dX10_readsMeeting_48 : decode cX10_readsMeeting 48 = .ok (.aload_n 0, 1) := by decide +kernel
theorem dX10_readsMeeting_49 : decode cX10_readsMeeting 49 = .ok (.iconst 0, 1) := by decide +kernel
theorem dX10_readsMeeting_50 : decode cX10_readsMeeting 50 = .ok (.bipush 60, 2) := by decide +kernel
theorem dX10_readsMeeting_52 : decode cX10_readsMeeting 52 = .ok (.bipush 59, 2) := by decide +kernel
theorem dX10_readsMeeting_54 : decode cX10_readsMeeting 54 = .ok (.invokevirtual 256, 3) := by decide +kernel
theorem dX10_readsMeeting_57 : decode cX10_readsMeeting 57 = .ok (.ifCond .ne 5, 3) := by decide +kernel
theorem dX10_readsMeeting_60 : decode cX10_readsMeeting 60 = .ok (.iconst 0, 1) := by decide +kernel
theorem dX10_readsMeeting_61 : decode cX10_readsMeeting 61 = .ok (.ireturn, 1) := by decide +kernel
theorem dX10_readsMeeting_62 : decode cX10_readsMeeting 62 = .ok (.aload_n 0, 1) := by decide +kernel
theorem dX10_readsMeeting_63 : decode cX10_readsMeeting 63 = .ok (.iload_n 1, 1) := by decide +kernel
theorem dX10_readsMeeting_64 : decode cX10_readsMeeting 64 = .ok (.iload_n 2, 1) := by decide +kernel
theorem dX10_readsMeeting_65 : decode cX10_readsMeeting 65 = .ok (.iload_n 3, 1) := by decide +kernel
theorem dX10_readsMeeting_66 : decode cX10_readsMeeting 66 = .ok (.aload_n 0, 1) := by decide +kernel
theorem dX10_readsMeeting_67 : decode cX10_readsMeeting 67 = .ok (.getfield 253, 3) := by decide +kernel
theorem dX10_readsMeeting_70 : decode cX10_readsMeeting 70 = .ok (.invokevirtual 74, 3) := by decide +kernel
theorem dX10_readsMeeting_73 : decode cX10_readsMeeting 73 = .ok (.iconst 1, 1) := by decide +kernel
theorem dX10_readsMeeting_74 : decode cX10_readsMeeting 74 = .ok (.ireturn, 1) := by decide +kernel
theorem dX10_readsStreet_0 : decode cX10_readsStreet 0 = .ok (.aload_n 0, 1) := by decide +kernel
theorem dX10_readsStreet_1 : decode cX10_readsStreet 1 = .ok (.getfield 20, 3) := by decide +kernel
theorem dX10_readsStreet_4 : decode cX10_readsStreet 4 = .ok (.iload_n 1, 1) := by decide +kernel
theorem dX10_readsStreet_5 : decode cX10_readsStreet 5 = .ok (.iaload, 1) := by decide +kernel
theorem dX10_readsStreet_6 : decode cX10_readsStreet 6 = .ok (.bipush 8, 2) := by decide +kernel
theorem dX10_readsStreet_8 : decode cX10_readsStreet 8 = .ok (.if_icmp .eq 21, 3) := by decide +kernel
theorem dX10_readsStreet_11 : decode cX10_readsStreet 11 = .ok (.aload_n 0, 1) := by decide +kernel
theorem dX10_readsStreet_12 : decode cX10_readsStreet 12 = .ok (.iconst 0, 1) := by decide +kernel
theorem dX10_readsStreet_13 : decode cX10_readsStreet 13 = .ok (.aload_n 0, 1) := by decide +kernel
theorem dX10_readsStreet_14 : decode cX10_readsStreet 14 = .ok (.getfield 16, 3) := by decide +kernel
theorem dX10_readsStreet_17 : decode cX10_readsStreet 17 = .ok (.iload_n 1, 1) := by decide +kernel
theorem dX10_readsStreet_18 : decode cX10_readsStreet 18 = .ok (.iaload, 1) := by decide +kernel
theorem dX10_readsStreet_19 : decode cX10_readsStreet 19 = .ok (.iconst 1, 1) := by decide +kernel
theorem dX10_readsStreet_20 : decode cX10_readsStreet 20 = .ok (.isub, 1) := by decide +kernel
theorem dX10_readsStreet_21 : decode cX10_readsStreet 21 = .ok (.bipush 44, 2) := by decide +kernel
theorem dX10_readsStreet_23 : decode cX10_readsStreet 23 = .ok (.invokevirtual 256, 3) := by decide +kernel
theorem dX10_readsStreet_26 : decode cX10_readsStreet 26 = .ok (.ifCond .ne 5, 3) := by decide +kernel
theorem dX10_readsStreet_29 : decode cX10_readsStreet 29 = .ok (.iconst 0, 1) := by decide +kernel
theorem dX10_readsStreet_30 : decode cX10_readsStreet 30 = .ok (.ireturn, 1) := by decide +kernel
theorem dX10_readsStreet_31 : decode cX10_readsStreet 31 = .ok (.aload_n 0, 1) := by decide +kernel
theorem dX10_readsStreet_32 : decode cX10_readsStreet 32 = .ok (.getfield 253, 3) := by decide +kernel
theorem dX10_readsStreet_35 : decode cX10_readsStreet 35 = .ok (.istore_n 2, 1) := by decide +kernel
theorem dX10_readsStreet_36 : decode cX10_readsStreet 36 = .ok (.aload_n 0, 1) := by decide +kernel
theorem dX10_readsStreet_37 : decode cX10_readsStreet 37 = .ok (.iconst 0, 1) := by decide +kernel
theorem dX10_readsStreet_38 : decode cX10_readsStreet 38 = .ok (.aload_n 0, 1) := by decide +kernel
theorem dX10_readsStreet_39 : decode cX10_readsStreet 39 = .ok (.getfield 16, 3) := by decide +kernel
theorem dX10_readsStreet_42 : decode cX10_readsStreet 42 = .ok (.iload_n 1, 1) := by decide +kernel
theorem dX10_readsStreet_43 : decode cX10_readsStreet 43 = .ok (.iaload, 1) := by decide +kernel
theorem dX10_readsStreet_44 : decode cX10_readsStreet 44 = .ok (.iconst 1, 1) := by decide +kernel
theorem dX10_readsStreet_45 : decode cX10_readsStreet 45 = .ok (.isub, 1) := by decide +kernel
theorem dX10_readsStreet_46 : decode cX10_readsStreet 46 = .ok (.bipush 44, 2) := by decide +kernel
theorem dX10_readsStreet_48 : decode cX10_readsStreet 48 = .ok (.invokevirtual 256, 3) := by decide +kernel
theorem dX10_readsStreet_51 : decode cX10_readsStreet 51 = .ok (.ifCond .ne 5, 3) := by decide +kernel
theorem dX10_readsStreet_54 : decode cX10_readsStreet 54 = .ok (.iconst 0, 1) := by decide +kernel
theorem dX10_readsStreet_55 : decode cX10_readsStreet 55 = .ok (.ireturn, 1) := by decide +kernel
theorem dX10_readsStreet_56 : decode cX10_readsStreet 56 = .ok (.aload_n 0, 1) := by decide +kernel
theorem dX10_readsStreet_57 : decode cX10_readsStreet 57 = .ok (.getfield 253, 3) := by decide +kernel
theorem dX10_readsStreet_60 : decode cX10_readsStreet 60 = .ok (.istore_n 3, 1) := by decide +kernel
theorem dX10_readsStreet_61 : decode cX10_readsStreet 61 = .ok (.iload_n 2, 1) := by decide +kernel
theorem dX10_readsStreet_62 : decode cX10_readsStreet 62 = .ok (.iload_n 3, 1) := by decide +kernel
theorem dX10_readsStreet_63 : decode cX10_readsStreet 63 = .ok (.if_icmp .eq 27, 3) := by decide +kernel
theorem dX10_readsStreet_66 : decode cX10_readsStreet 66 = .ok (.aload_n 0, 1) := by decide +kernel
theorem dX10_readsStreet_67 : decode cX10_readsStreet 67 = .ok (.iload_n 1, 1) := by decide +kernel
theorem dX10_readsStreet_68 : decode cX10_readsStreet 68 = .ok (.iload_n 2, 1) := by decide +kernel
theorem dX10_readsStreet_69 : decode cX10_readsStreet 69 = .ok (.iload_n 3, 1) := by decide +kernel
theorem dX10_readsStreet_70 : decode cX10_readsStreet 70 = .ok (.invokevirtual 121, 3) := by decide +kernel
theorem dX10_readsStreet_73 : decode cX10_readsStreet 73 = .ok (.bipush (-4), 2) := by decide +kernel
theorem dX10_readsStreet_75 : decode cX10_readsStreet 75 = .ok (.if_icmp .ne 15, 3) := by decide +kernel
theorem dX10_readsStreet_78 : decode cX10_readsStreet 78 = .ok (.aload_n 0, 1) := by decide +kernel
theorem dX10_readsStreet_79 : decode cX10_readsStreet 79 = .ok (.iconst 0, 1) := by decide +kernel
theorem dX10_readsStreet_80 : decode cX10_readsStreet 80 = .ok (.bipush 9, 2) := by decide +kernel
theorem dX10_readsStreet_82 : decode cX10_readsStreet 82 = .ok (.bipush 59, 2) := by decide +kernel
theorem dX10_readsStreet_84 : decode cX10_readsStreet 84 = .ok (.invokevirtual 256, 3) := by decide +kernel
theorem dX10_readsStreet_87 : decode cX10_readsStreet 87 = .ok (.ifCond .ne 5, 3) := by decide +kernel
theorem dX10_readsStreet_90 : decode cX10_readsStreet 90 = .ok (.iconst 0, 1) := by decide +kernel
theorem dX10_readsStreet_91 : decode cX10_readsStreet 91 = .ok (.ireturn, 1) := by decide +kernel
theorem dX10_readsStreet_92 : decode cX10_readsStreet 92 = .ok (.aload_n 0, 1) := by decide +kernel
theorem dX10_readsStreet_93 : decode cX10_readsStreet 93 = .ok (.iload_n 1, 1) := by decide +kernel
theorem dX10_readsStreet_94 : decode cX10_readsStreet 94 = .ok (.iload_n 2, 1) := by decide +kernel
theorem dX10_readsStreet_95 : decode cX10_readsStreet 95 = .ok (.iload_n 3, 1) := by decide +kernel
theorem dX10_readsStreet_96 : decode cX10_readsStreet 96 = .ok (.aload_n 0, 1) := by decide +kernel
theorem dX10_readsStreet_97 : decode cX10_readsStreet 97 = .ok (.getfield 253, 3) := by decide +kernel
theorem dX10_readsStreet_100 : decode cX10_readsStreet 100 = .ok (.invokevirtual 78, 3) := by decide +kernel
theorem dX10_readsStreet_103 : decode cX10_readsStreet 103 = .ok (.iconst 1, 1) := by decide +kernel
theorem dX10_readsStreet_104 : decode cX10_readsStreet 104 = .ok (.ireturn, 1) := by decide +kernel
theorem dX10_readsNear_0 : decode cX10_readsNear 0 = .ok (.aload_n 0, 1) := by decide +kernel
theorem dX10_readsNear_1 : decode cX10_readsNear 1 = .ok (.iconst 1, 1) := by decide +kernel
theorem dX10_readsNear_2 : decode cX10_readsNear 2 = .ok (.bipush 20, 2) := by decide +kernel
theorem dX10_readsNear_4 : decode cX10_readsNear 4 = .ok (.bipush 59, 2) := by decide +kernel
theorem dX10_readsNear_6 : decode cX10_readsNear 6 = .ok (.invokevirtual 256, 3) := by decide +kernel
theorem dX10_readsNear_9 : decode cX10_readsNear 9 = .ok (.ifCond .ne 5, 3) := by decide +kernel
theorem dX10_readsNear_12 : decode cX10_readsNear 12 = .ok (.iconst 0, 1) := by decide +kernel
theorem dX10_readsNear_13 : decode cX10_readsNear 13 = .ok (.ireturn, 1) := by decide +kernel
theorem dX10_readsNear_14 : decode cX10_readsNear 14 = .ok (.aload_n 0, 1) := by decide +kernel
theorem dX10_readsNear_15 : decode cX10_readsNear 15 = .ok (.aload_n 0, 1) := by decide +kernel
theorem dX10_readsNear_16 : decode cX10_readsNear 16 = .ok (.getfield 253, 3) := by decide +kernel
theorem dX10_readsNear_19 : decode cX10_readsNear 19 = .ok (.putfield 7, 3) := by decide +kernel
theorem dX10_readsNear_22 : decode cX10_readsNear 22 = .ok (.iconst 1, 1) := by decide +kernel
theorem dX10_readsNear_23 : decode cX10_readsNear 23 = .ok (.ireturn, 1) := by decide +kernel
theorem dX10_readsRounds_0 : decode cX10_readsRounds 0 = .ok (.aload_n 0, 1) := by decide +kernel
theorem dX10_readsRounds_1 : decode cX10_readsRounds 1 = .ok (.iconst 0, 1) := by decide +kernel
theorem dX10_readsRounds_2 : decode cX10_readsRounds 2 = .ok (.iconst 3, 1) := by decide +kernel
theorem dX10_readsRounds_3 : decode cX10_readsRounds 3 = .ok (.bipush 59, 2) := by decide +kernel
theorem dX10_readsRounds_5 : decode cX10_readsRounds 5 = .ok (.invokevirtual 256, 3) := by decide +kernel
theorem dX10_readsRounds_8 : decode cX10_readsRounds 8 = .ok (.ifCond .ne 5, 3) := by decide +kernel
theorem dX10_readsRounds_11 : decode cX10_readsRounds 11 = .ok (.iconst 0, 1) := by decide +kernel
theorem dX10_readsRounds_12 : decode cX10_readsRounds 12 = .ok (.ireturn, 1) := by decide +kernel
theorem dX10_readsRounds_13 : decode cX10_readsRounds 13 = .ok (.aload_n 0, 1) := by decide +kernel
theorem dX10_readsRounds_14 : decode cX10_readsRounds 14 = .ok (.aload_n 0, 1) := by decide +kernel
theorem dX10_readsRounds_15 : decode cX10_readsRounds 15 = .ok (.getfield 253, 3) := by decide +kernel
theorem dX10_readsRounds_18 : decode cX10_readsRounds 18 = .ok (.putfield 13, 3) := by decide +kernel
theorem dX10_readsRounds_21 : decode cX10_readsRounds 21 = .ok (.iconst 1, 1) := by decide +kernel
theorem dX10_readsRounds_22 : decode cX10_readsRounds 22 = .ok (.ireturn, 1) := by decide +kernel
theorem dX10_readsItem_0 : decode cX10_readsItem 0 = .ok (.aload_n 0, 1) := by decide +kernel
theorem dX10_readsItem_1 : decode cX10_readsItem 1 = .ok (.invokevirtual 247, 3) := by decide +kernel
theorem dX10_readsItem_4 : decode cX10_readsItem 4 = .ok (.istore_n 1, 1) := by decide +kernel
theorem dX10_readsItem_5 : decode cX10_readsItem 5 = .ok (.aload_n 0, 1) := by decide +kernel
theorem dX10_readsItem_6 : decode cX10_readsItem 6 = .ok (.dup, 1) := by decide +kernel
theorem dX10_readsItem_7 : decode cX10_readsItem 7 = .ok (.getfield 244, 3) := by decide +kernel
theorem dX10_readsItem_10 : decode cX10_readsItem 10 = .ok (.iconst 1, 1) := by decide +kernel
theorem dX10_readsItem_11 : decode cX10_readsItem 11 = .ok (.iadd, 1) := by decide +kernel
theorem dX10_readsItem_12 : decode cX10_readsItem 12 = .ok (.putfield 244, 3) := by decide +kernel
theorem dX10_readsItem_15 : decode cX10_readsItem 15 = .ok (.iload_n 1, 1) := by decide +kernel
theorem dX10_readsItem_16 : decode cX10_readsItem 16 = .ok (.lookupswitch 80 #[(97, 62), (98, 68), (110, 57), (114, 52), (115, 74)], 52) := by decide +kernel
theorem dX10_readsItem_68 : decode cX10_readsItem 68 = .ok (.aload_n 0, 1) := by decide +kernel
theorem dX10_readsItem_69 : decode cX10_readsItem 69 = .ok (.invokevirtual 259, 3) := by decide +kernel
theorem dX10_readsItem_72 : decode cX10_readsItem 72 = .ok (.ireturn, 1) := by decide +kernel
theorem dX10_readsItem_73 : decode cX10_readsItem 73 = .ok (.aload_n 0, 1) := by decide +kernel
theorem dX10_readsItem_74 : decode cX10_readsItem 74 = .ok (.invokevirtual 262, 3) := by decide +kernel
theorem dX10_readsItem_77 : decode cX10_readsItem 77 = .ok (.ireturn, 1) := by decide +kernel
theorem dX10_readsItem_78 : decode cX10_readsItem 78 = .ok (.aload_n 0, 1) := by decide +kernel
theorem dX10_readsItem_79 : decode cX10_readsItem 79 = .ok (.iconst 0, 1) := by decide +kernel
theorem dX10_readsItem_80 : decode cX10_readsItem 80 = .ok (.invokevirtual 265, 3) := by decide +kernel
theorem dX10_readsItem_83 : decode cX10_readsItem 83 = .ok (.ireturn, 1) := by decide +kernel
theorem dX10_readsItem_84 : decode cX10_readsItem 84 = .ok (.aload_n 0, 1) := by decide +kernel
theorem dX10_readsItem_85 : decode cX10_readsItem 85 = .ok (.iconst 1, 1) := by decide +kernel
theorem dX10_readsItem_86 : decode cX10_readsItem 86 = .ok (.invokevirtual 265, 3) := by decide +kernel
theorem dX10_readsItem_89 : decode cX10_readsItem 89 = .ok (.ireturn, 1) := by decide +kernel
theorem dX10_readsItem_90 : decode cX10_readsItem 90 = .ok (.aload_n 0, 1) := by decide +kernel
theorem dX10_readsItem_91 : decode cX10_readsItem 91 = .ok (.iconst 0, 1) := by decide +kernel
theorem dX10_readsItem_92 : decode cX10_readsItem 92 = .ok (.invokevirtual 268, 3) := by decide +kernel
theorem dX10_readsItem_95 : decode cX10_readsItem 95 = .ok (.ireturn, 1) := by decide +kernel
theorem dX10_readsItem_96 : decode cX10_readsItem 96 = .ok (.iload_n 1, 1) := by decide +kernel
theorem dX10_readsItem_97 : decode cX10_readsItem 97 = .ok (.bipush 116, 2) := by decide +kernel
theorem dX10_readsItem_99 : decode cX10_readsItem 99 = .ok (.if_icmp .ne 15, 3) := by decide +kernel
theorem dX10_readsItem_102 : decode cX10_readsItem 102 = .ok (.aload_n 0, 1) := by decide +kernel
theorem dX10_readsItem_103 : decode cX10_readsItem 103 = .ok (.iconst 1, 1) := by decide +kernel
theorem dX10_readsItem_104 : decode cX10_readsItem 104 = .ok (.invokevirtual 268, 3) := by decide +kernel
theorem dX10_readsItem_107 : decode cX10_readsItem 107 = .ok (.ifCond .eq 7, 3) := by decide +kernel
theorem dX10_readsItem_110 : decode cX10_readsItem 110 = .ok (.iconst 1, 1) := by decide +kernel
theorem dX10_readsItem_111 : decode cX10_readsItem 111 = .ok (.goto 4, 3) := by decide +kernel
theorem dX10_readsItem_114 : decode cX10_readsItem 114 = .ok (.iconst 0, 1) := by decide +kernel
theorem dX10_readsItem_115 : decode cX10_readsItem 115 = .ok (.ireturn, 1) := by decide +kernel
theorem dX10_readsAll_0 : decode cX10_readsAll 0 = .ok (.aload_n 0, 1) := by decide +kernel
theorem dX10_readsAll_1 : decode cX10_readsAll 1 = .ok (.iconst 0, 1) := by decide +kernel
theorem dX10_readsAll_2 : decode cX10_readsAll 2 = .ok (.putfield 244, 3) := by decide +kernel
theorem dX10_readsAll_5 : decode cX10_readsAll 5 = .ok (.aload_n 0, 1) := by decide +kernel
theorem dX10_readsAll_6 : decode cX10_readsAll 6 = .ok (.bipush 10, 2) := by decide +kernel
theorem dX10_readsAll_8 : decode cX10_readsAll 8 = .ok (.putfield 7, 3) := by decide +kernel
theorem dX10_readsAll_11 : decode cX10_readsAll 11 = .ok (.aload_n 0, 1) := by decide +kernel
theorem dX10_readsAll_12 : decode cX10_readsAll 12 = .ok (.iconst 2, 1) := by decide +kernel
theorem dX10_readsAll_13 : decode cX10_readsAll 13 = .ok (.putfield 13, 3) := by decide +kernel
theorem dX10_readsAll_16 : decode cX10_readsAll 16 = .ok (.iconst 0, 1) := by decide +kernel
theorem dX10_readsAll_17 : decode cX10_readsAll 17 = .ok (.istore_n 1, 1) := by decide +kernel
theorem dX10_readsAll_18 : decode cX10_readsAll 18 = .ok (.iload_n 1, 1) := by decide +kernel
theorem dX10_readsAll_19 : decode cX10_readsAll 19 = .ok (.iconst 2, 1) := by decide +kernel
theorem dX10_readsAll_20 : decode cX10_readsAll 20 = .ok (.if_icmp .ge 23, 3) := by decide +kernel
theorem dX10_readsAll_23 : decode cX10_readsAll 23 = .ok (.aload_n 0, 1) := by decide +kernel
theorem dX10_readsAll_24 : decode cX10_readsAll 24 = .ok (.getfield 16, 3) := by decide +kernel
theorem dX10_readsAll_27 : decode cX10_readsAll 27 = .ok (.iload_n 1, 1) := by decide +kernel
theorem dX10_readsAll_28 : decode cX10_readsAll 28 = .ok (.iconst 0, 1) := by decide +kernel
theorem dX10_readsAll_29 : decode cX10_readsAll 29 = .ok (.iastore, 1) := by decide +kernel
theorem dX10_readsAll_30 : decode cX10_readsAll 30 = .ok (.aload_n 0, 1) := by decide +kernel
theorem dX10_readsAll_31 : decode cX10_readsAll 31 = .ok (.getfield 20, 3) := by decide +kernel
theorem dX10_readsAll_34 : decode cX10_readsAll 34 = .ok (.iload_n 1, 1) := by decide +kernel
theorem dX10_readsAll_35 : decode cX10_readsAll 35 = .ok (.iconst 0, 1) := by decide +kernel
theorem dX10_readsAll_36 : decode cX10_readsAll 36 = .ok (.iastore, 1) := by decide +kernel
theorem dX10_readsAll_37 : decode cX10_readsAll 37 = .ok (.iinc 1 1, 3) := by decide +kernel
theorem dX10_readsAll_40 : decode cX10_readsAll 40 = .ok (.goto (-22), 3) := by decide +kernel
theorem dX10_readsAll_43 : decode cX10_readsAll 43 = .ok (.aload_n 0, 1) := by decide +kernel
theorem dX10_readsAll_44 : decode cX10_readsAll 44 = .ok (.getfield 244, 3) := by decide +kernel
theorem dX10_readsAll_47 : decode cX10_readsAll 47 = .ok (.aload_n 0, 1) := by decide +kernel
theorem dX10_readsAll_48 : decode cX10_readsAll 48 = .ok (.getfield 238, 3) := by decide +kernel
theorem dX10_readsAll_51 : decode cX10_readsAll 51 = .ok (.if_icmp .ge 20, 3) := by decide +kernel
theorem dX10_readsAll_54 : decode cX10_readsAll 54 = .ok (.aload_n 0, 1) := by decide +kernel
theorem dX10_readsAll_55 : decode cX10_readsAll 55 = .ok (.getfield 244, 3) := by decide +kernel
theorem dX10_readsAll_58 : decode cX10_readsAll 58 = .ok (.istore_n 1, 1) := by decide +kernel
theorem dX10_readsAll_59 : decode cX10_readsAll 59 = .ok (.aload_n 0, 1) := by decide +kernel
theorem dX10_readsAll_60 : decode cX10_readsAll 60 = .ok (.invokevirtual 271, 3) := by decide +kernel
theorem dX10_readsAll_63 : decode cX10_readsAll 63 = .ok (.ifCond .ne 5, 3) := by decide +kernel
theorem dX10_readsAll_66 : decode cX10_readsAll 66 = .ok (.iload_n 1, 1) := by decide +kernel
theorem dX10_readsAll_67 : decode cX10_readsAll 67 = .ok (.ireturn, 1) := by decide +kernel
theorem dX10_readsAll_68 : decode cX10_readsAll 68 = .ok (.goto (-25), 3) := by decide +kernel
theorem dX10_readsAll_71 : decode cX10_readsAll 71 = .ok (.bipush (-4), 2) := by decide +kernel
theorem dX10_readsAll_73 : decode cX10_readsAll 73 = .ok (.ireturn, 1) := by decide +kernel
theorem dX10_fault_0 : decode cX10_fault 0 = .ok (.aload_n 0, 1) := by decide +kernel
theorem dX10_fault_1 : decode cX10_fault 1 = .ok (.aload_n 0, 1) := by decide +kernel
theorem dX10_fault_2 : decode cX10_fault 2 = .ok (.getfield 71, 3) := by decide +kernel
theorem dX10_fault_5 : decode cX10_fault 5 = .ok (.iconst 0, 1) := by decide +kernel
theorem dX10_fault_6 : decode cX10_fault 6 = .ok (.invokevirtual 110, 3) := by decide +kernel
theorem dX10_fault_9 : decode cX10_fault 9 = .ok (.aload_n 0, 1) := by decide +kernel
theorem dX10_fault_10 : decode cX10_fault 10 = .ok (.invokevirtual 274, 3) := by decide +kernel
theorem dX10_fault_13 : decode cX10_fault 13 = .ok (.istore_n 1, 1) := by decide +kernel
theorem dX10_fault_14 : decode cX10_fault 14 = .ok (.aload_n 0, 1) := by decide +kernel
theorem dX10_fault_15 : decode cX10_fault 15 = .ok (.aload_n 0, 1) := by decide +kernel
theorem dX10_fault_16 : decode cX10_fault 16 = .ok (.getfield 71, 3) := by decide +kernel
theorem dX10_fault_19 : decode cX10_fault 19 = .ok (.iconst 0, 1) := by decide +kernel
theorem dX10_fault_20 : decode cX10_fault 20 = .ok (.invokevirtual 125, 3) := by decide +kernel
theorem dX10_fault_23 : decode cX10_fault 23 = .ok (.iload_n 1, 1) := by decide +kernel
theorem dX10_fault_24 : decode cX10_fault 24 = .ok (.ireturn, 1) := by decide +kernel
theorem dX10_lay_0 : decode cX10_lay 0 = .ok (.aload_n 0, 1) := by decide +kernel
theorem dX10_lay_1 : decode cX10_lay 1 = .ok (.aload_n 0, 1) := by decide +kernel
theorem dX10_lay_2 : decode cX10_lay 2 = .ok (.getfield 71, 3) := by decide +kernel
theorem dX10_lay_5 : decode cX10_lay 5 = .ok (.iconst 0, 1) := by decide +kernel
theorem dX10_lay_6 : decode cX10_lay 6 = .ok (.invokevirtual 110, 3) := by decide +kernel
theorem dX10_lay_9 : decode cX10_lay 9 = .ok (.aload_n 0, 1) := by decide +kernel
theorem dX10_lay_10 : decode cX10_lay 10 = .ok (.invokevirtual 274, 3) := by decide +kernel
theorem dX10_lay_13 : decode cX10_lay 13 = .ok (.bipush (-4), 2) := by decide +kernel
theorem dX10_lay_15 : decode cX10_lay 15 = .ok (.if_icmp .ne 21, 3) := by decide +kernel
theorem dX10_lay_18 : decode cX10_lay 18 = .ok (.aload_n 0, 1) := by decide +kernel
theorem dX10_lay_19 : decode cX10_lay 19 = .ok (.getfield 16, 3) := by decide +kernel
theorem dX10_lay_22 : decode cX10_lay 22 = .ok (.iconst 0, 1) := by decide +kernel
theorem dX10_lay_23 : decode cX10_lay 23 = .ok (.iaload, 1) := by decide +kernel
theorem dX10_lay_24 : decode cX10_lay 24 = .ok (.ifCond .eq 12, 3) := by decide +kernel
theorem dX10_lay_27 : decode cX10_lay 27 = .ok (.aload_n 0, 1) := by decide +kernel
theorem dX10_lay_28 : decode cX10_lay 28 = .ok (.getfield 16, 3) := by decide +kernel
theorem dX10_lay_31 : decode cX10_lay 31 = .ok (.iconst 1, 1) := by decide +kernel
theorem dX10_lay_32 : decode cX10_lay 32 = .ok (.iaload, 1) := by decide +kernel
theorem dX10_lay_33 : decode cX10_lay 33 = .ok (.ifCond .ne 15, 3) := by decide +kernel
theorem dX10_lay_36 : decode cX10_lay 36 = .ok (.aload_n 0, 1) := by decide +kernel
theorem dX10_lay_37 : decode cX10_lay 37 = .ok (.aload_n 0, 1) := by decide +kernel
theorem dX10_lay_38 : decode cX10_lay 38 = .ok (.getfield 71, 3) := by decide +kernel
theorem dX10_lay_41 : decode cX10_lay 41 = .ok (.iconst 0, 1) := by decide +kernel
theorem dX10_lay_42 : decode cX10_lay 42 = .ok (.invokevirtual 125, 3) := by decide +kernel
theorem dX10_lay_45 : decode cX10_lay 45 = .ok (.bipush (-2), 2) := by decide +kernel
theorem dX10_lay_47 : decode cX10_lay 47 = .ok (.ireturn, 1) := by decide +kernel
theorem dX10_lay_48 : decode cX10_lay 48 = .ok (.aload_n 0, 1) := by decide +kernel
theorem dX10_lay_49 : decode cX10_lay 49 = .ok (.iconst 0, 1) := by decide +kernel
theorem dX10_lay_50 : decode cX10_lay 50 = .ok (.putfield 107, 3) := by decide +kernel
theorem dX10_lay_53 : decode cX10_lay 53 = .ok (.aload_n 0, 1) := by decide +kernel
theorem dX10_lay_54 : decode cX10_lay 54 = .ok (.iconst 0, 1) := by decide +kernel
theorem dX10_lay_55 : decode cX10_lay 55 = .ok (.putfield 128, 3) := by decide +kernel
theorem dX10_lay_58 : decode cX10_lay 58 = .ok (.aload_n 0, 1) := by decide +kernel
theorem dX10_lay_59 : decode cX10_lay 59 = .ok (.invokevirtual 81, 3) := by decide +kernel
theorem dX10_lay_62 : decode cX10_lay 62 = .ok (.aload_n 0, 1) := by decide +kernel
theorem dX10_lay_63 : decode cX10_lay 63 = .ok (.getfield 16, 3) := by decide +kernel
theorem dX10_lay_66 : decode cX10_lay 66 = .ok (.iconst 0, 1) := by decide +kernel
theorem dX10_lay_67 : decode cX10_lay 67 = .ok (.iaload, 1) := by decide +kernel
theorem dX10_lay_68 : decode cX10_lay 68 = .ok (.aload_n 0, 1) := by decide +kernel
theorem dX10_lay_69 : decode cX10_lay 69 = .ok (.getfield 16, 3) := by decide +kernel
theorem dX10_lay_72 : decode cX10_lay 72 = .ok (.iconst 1, 1) := by decide +kernel
theorem dX10_lay_73 : decode cX10_lay 73 = .ok (.iaload, 1) := by decide +kernel
theorem dX10_lay_74 : decode cX10_lay 74 = .ok (.iadd, 1) := by decide +kernel
theorem dX10_lay_75 : decode cX10_lay 75 = .ok (.ireturn, 1) := by decide +kernel
end
section
theorem dJ9_abs_0f7a4_0 : decode cJ9_abs_0f7a4 0 = .ok (.iload_n 0, 1) := by decide +kernel
theorem dJ9_abs_0f7a4_1 : decode cJ9_abs_0f7a4 1 = .ok (.ifCond .ge 8, 3) := by decide +kernel
theorem dJ9_abs_0f7a4_4 : decode cJ9_abs_0f7a4 4 = .ok (.iload_n 0, 1) := by decide +kernel
theorem dJ9_abs_0f7a4_5 : decode cJ9_abs_0f7a4 5 = .ok (.ineg, 1) := by decide +kernel
theorem dJ9_abs_0f7a4_6 : decode cJ9_abs_0f7a4 6 = .ok (.goto 4, 3) := by decide +kernel
theorem dJ9_abs_0f7a4_9 : decode cJ9_abs_0f7a4 9 = .ok (.iload_n 0, 1) := by decide +kernel
theorem dJ9_abs_0f7a4_10 : decode cJ9_abs_0f7a4 10 = .ok (.ireturn, 1) := by decide +kernel
theorem dJ9_max_7cf53_0 : decode cJ9_max_7cf53 0 = .ok (.iload_n 0, 1) := by decide +kernel
theorem dJ9_max_7cf53_1 : decode cJ9_max_7cf53 1 = .ok (.iload_n 1, 1) := by decide +kernel
theorem dJ9_max_7cf53_2 : decode cJ9_max_7cf53 2 = .ok (.if_icmp .lt 7, 3) := by decide +kernel
theorem dJ9_max_7cf53_5 : decode cJ9_max_7cf53 5 = .ok (.iload_n 0, 1) := by decide +kernel
theorem dJ9_max_7cf53_6 : decode cJ9_max_7cf53 6 = .ok (.goto 4, 3) := by decide +kernel
theorem dJ9_max_7cf53_9 : decode cJ9_max_7cf53 9 = .ok (.iload_n 1, 1) := by decide +kernel
theorem dJ9_max_7cf53_10 : decode cJ9_max_7cf53 10 = .ok (.ireturn, 1) := by decide +kernel
theorem dJ9_min_7cf53_0 : decode cJ9_min_7cf53 0 = .ok (.iload_n 0, 1) := by decide +kernel
theorem dJ9_min_7cf53_1 : decode cJ9_min_7cf53 1 = .ok (.iload_n 1, 1) := by decide +kernel
theorem dJ9_min_7cf53_2 : decode cJ9_min_7cf53 2 = .ok (.if_icmp .gt 7, 3) := by decide +kernel
theorem dJ9_min_7cf53_5 : decode cJ9_min_7cf53 5 = .ok (.iload_n 0, 1) := by decide +kernel
theorem dJ9_min_7cf53_6 : decode cJ9_min_7cf53 6 = .ok (.goto 4, 3) := by decide +kernel
theorem dJ9_min_7cf53_9 : decode cJ9_min_7cf53 9 = .ok (.iload_n 1, 1) := by decide +kernel
theorem dJ9_min_7cf53_10 : decode cJ9_min_7cf53 10 = .ok (.ireturn, 1) := by decide +kernel
theorem dJ0_length_8abf5_0 : decode cJ0_length_8abf5 0 = .ok (.aload_n 0, 1) := by decide +kernel
theorem dJ0_length_8abf5_1 : decode cJ0_length_8abf5 1 = .ok (.getfield 9, 3) := by decide +kernel
theorem dJ0_length_8abf5_4 : decode cJ0_length_8abf5 4 = .ok (.arraylength, 1) := by decide +kernel
theorem dJ0_length_8abf5_5 : decode cJ0_length_8abf5 5 = .ok (.aload_n 0, 1) := by decide +kernel
theorem dJ0_length_8abf5_6 : decode cJ0_length_8abf5 6 = .ok (.invokevirtual 335, 3) := by decide +kernel
theorem dJ0_length_8abf5_9 : decode cJ0_length_8abf5 9 = .ok (.ishr, 1) := by decide +kernel
theorem dJ0_length_8abf5_10 : decode cJ0_length_8abf5 10 = .ok (.ireturn, 1) := by decide +kernel
theorem dJ0_charAt_5068e_0 : decode cJ0_charAt_5068e 0 = .ok (.aload_n 0, 1) := by decide +kernel
theorem dJ0_charAt_5068e_1 : decode cJ0_charAt_5068e 1 = .ok (.invokevirtual 492, 3) := by decide +kernel
theorem dJ0_charAt_5068e_4 : decode cJ0_charAt_5068e 4 = .ok (.ifCond .eq 12, 3) := by decide +kernel
theorem dJ0_charAt_5068e_7 : decode cJ0_charAt_5068e 7 = .ok (.aload_n 0, 1) := by decide +kernel
theorem dJ0_charAt_5068e_8 : decode cJ0_charAt_5068e 8 = .ok (.getfield 9, 3) := by decide +kernel
theorem dJ0_charAt_5068e_11 : decode cJ0_charAt_5068e 11 = .ok (.iload_n 1, 1) := by decide +kernel
theorem dJ0_charAt_5068e_12 : decode cJ0_charAt_5068e 12 = .ok (.invokestatic 495, 3) := by decide +kernel
theorem dJ0_charAt_5068e_15 : decode cJ0_charAt_5068e 15 = .ok (.ireturn, 1) := by decide +kernel
theorem dJ0_charAt_5068e_16 : decode cJ0_charAt_5068e 16 = .ok (.aload_n 0, 1) := by decide +kernel
theorem dJ0_charAt_5068e_17 : decode cJ0_charAt_5068e 17 = .ok (.getfield 9, 3) := by decide +kernel
theorem dJ0_charAt_5068e_20 : decode cJ0_charAt_5068e 20 = .ok (.iload_n 1, 1) := by decide +kernel
theorem dJ0_charAt_5068e_21 : decode cJ0_charAt_5068e 21 = .ok (.invokestatic 498, 3) := by decide +kernel
theorem dJ0_charAt_5068e_24 : decode cJ0_charAt_5068e 24 = .ok (.ireturn, 1) := by decide +kernel
theorem dJ0_coder_7d493_0 : decode cJ0_coder_7d493 0 = .ok (.getstatic 38, 3) := by decide +kernel
theorem dJ0_coder_7d493_3 : decode cJ0_coder_7d493 3 = .ok (.ifCond .eq 10, 3) := by decide +kernel
theorem dJ0_coder_7d493_6 : decode cJ0_coder_7d493 6 = .ok (.aload_n 0, 1) := by decide +kernel
theorem dJ0_coder_7d493_7 : decode cJ0_coder_7d493 7 = .ok (.getfield 15, 3) := by decide +kernel
theorem dJ0_coder_7d493_10 : decode cJ0_coder_7d493 10 = .ok (.goto 4, 3) := by decide +kernel
theorem dJ0_coder_7d493_13 : decode cJ0_coder_7d493 13 = .ok (.iconst 1, 1) := by decide +kernel
theorem dJ0_coder_7d493_14 : decode cJ0_coder_7d493 14 = .ok (.ireturn, 1) := by decide +kernel
theorem dJ0_isLatin1_aae02_0 : decode cJ0_isLatin1_aae02 0 = .ok (.getstatic 38, 3) := by decide +kernel
theorem dJ0_isLatin1_aae02_3 : decode cJ0_isLatin1_aae02 3 = .ok (.ifCond .eq 14, 3) := by decide +kernel
theorem dJ0_isLatin1_aae02_6 : decode cJ0_isLatin1_aae02 6 = .ok (.aload_n 0, 1) := by decide +kernel
theorem dJ0_isLatin1_aae02_7 : decode cJ0_isLatin1_aae02 7 = .ok (.getfield 15, 3) := by decide +kernel
theorem dJ0_isLatin1_aae02_10 : decode cJ0_isLatin1_aae02 10 = .ok (.ifCond .ne 7, 3) := by decide +kernel
theorem dJ0_isLatin1_aae02_13 : decode cJ0_isLatin1_aae02 13 = .ok (.iconst 1, 1) := by decide +kernel
theorem dJ0_isLatin1_aae02_14 : decode cJ0_isLatin1_aae02 14 = .ok (.goto 4, 3) := by decide +kernel
theorem dJ0_isLatin1_aae02_17 : decode cJ0_isLatin1_aae02 17 = .ok (.iconst 0, 1) := by decide +kernel
theorem dJ0_isLatin1_aae02_18 : decode cJ0_isLatin1_aae02 18 = .ok (.ireturn, 1) := by decide +kernel
theorem dJ0_checkIndex_df160_0 : decode cJ0_checkIndex_df160 0 = .ok (.iload_n 0, 1) := by decide +kernel
theorem dJ0_checkIndex_df160_1 : decode cJ0_checkIndex_df160 1 = .ok (.iload_n 1, 1) := by decide +kernel
theorem dJ0_checkIndex_df160_2 : decode cJ0_checkIndex_df160 2 = .ok (.getstatic 1053, 3) := by decide +kernel
theorem dJ0_checkIndex_df160_5 : decode cJ0_checkIndex_df160 5 = .ok (.invokestatic 1059, 3) := by decide +kernel
theorem dJ0_checkIndex_df160_8 : decode cJ0_checkIndex_df160 8 = .ok (.pop, 1) := by decide +kernel
theorem dJ0_checkIndex_df160_9 : decode cJ0_checkIndex_df160 9 = .ok (.return_, 1) := by decide +kernel
theorem dJ1_charAt_3b067_0 : decode cJ1_charAt_3b067 0 = .ok (.iload_n 1, 1) := by decide +kernel
theorem dJ1_charAt_3b067_1 : decode cJ1_charAt_3b067 1 = .ok (.aload_n 0, 1) := by decide +kernel
theorem dJ1_charAt_3b067_2 : decode cJ1_charAt_3b067 2 = .ok (.arraylength, 1) := by decide +kernel
theorem dJ1_charAt_3b067_3 : decode cJ1_charAt_3b067 3 = .ok (.invokestatic 9, 3) := by decide +kernel
theorem dJ1_charAt_3b067_6 : decode cJ1_charAt_3b067 6 = .ok (.aload_n 0, 1) := by decide +kernel
theorem dJ1_charAt_3b067_7 : decode cJ1_charAt_3b067 7 = .ok (.iload_n 1, 1) := by decide +kernel
theorem dJ1_charAt_3b067_8 : decode cJ1_charAt_3b067 8 = .ok (.baload, 1) := by decide +kernel
theorem dJ1_charAt_3b067_9 : decode cJ1_charAt_3b067 9 = .ok (.sipush 255, 3) := by decide +kernel
theorem dJ1_charAt_3b067_12 : decode cJ1_charAt_3b067 12 = .ok (.iand, 1) := by decide +kernel
theorem dJ1_charAt_3b067_13 : decode cJ1_charAt_3b067 13 = .ok (.i2c, 1) := by decide +kernel
theorem dJ1_charAt_3b067_14 : decode cJ1_charAt_3b067 14 = .ok (.ireturn, 1) := by decide +kernel
theorem dJ2_getChar_3b067_0 : decode cJ2_getChar_3b067 0 = .ok (.getstatic 44, 3) := by decide +kernel
theorem dJ2_getChar_3b067_3 : decode cJ2_getChar_3b067 3 = .ok (.ifCond .ne 25, 3) := by decide +kernel
theorem dJ2_getChar_3b067_6 : decode cJ2_getChar_3b067 6 = .ok (.iload_n 1, 1) := by decide +kernel
theorem dJ2_getChar_3b067_7 : decode cJ2_getChar_3b067 7 = .ok (.ifCond .lt 11, 3) := by decide +kernel
theorem dJ2_getChar_3b067_10 : decode cJ2_getChar_3b067 10 = .ok (.iload_n 1, 1) := by decide +kernel
theorem dJ2_getChar_3b067_11 : decode cJ2_getChar_3b067 11 = .ok (.aload_n 0, 1) := by decide +kernel
theorem dJ2_getChar_3b067_12 : decode cJ2_getChar_3b067 12 = .ok (.invokestatic 48, 3) := by decide +kernel
theorem dJ2_getChar_3b067_15 : decode cJ2_getChar_3b067 15 = .ok (.if_icmp .lt 13, 3) := by decide +kernel
theorem dJ2_getChar_3b067_18 : decode cJ2_getChar_3b067 18 = .ok (.new 52, 3) := by decide +kernel
theorem dJ2_getChar_3b067_21 : decode cJ2_getChar_3b067 21 = .ok (.dup, 1) := by decide +kernel
theorem dJ2_getChar_3b067_22 : decode cJ2_getChar_3b067 22 = .ok (.ldc 54, 2) := by decide +kernel
theorem dJ2_getChar_3b067_24 : decode cJ2_getChar_3b067 24 = .ok (.invokespecial 56, 3) := by decide +kernel
theorem dJ2_getChar_3b067_27 : decode cJ2_getChar_3b067 27 = .ok (.athrow, 1) := by decide +kernel
theorem dJ2_getChar_3b067_28 : decode cJ2_getChar_3b067 28 = .ok (.iload_n 1, 1) := by decide +kernel
theorem dJ2_getChar_3b067_29 : decode cJ2_getChar_3b067 29 = .ok (.iconst 1, 1) := by decide +kernel
theorem dJ2_getChar_3b067_30 : decode cJ2_getChar_3b067 30 = .ok (.ishl, 1) := by decide +kernel
theorem dJ2_getChar_3b067_31 : decode cJ2_getChar_3b067 31 = .ok (.istore_n 1, 1) := by decide +kernel
theorem dJ2_getChar_3b067_32 : decode cJ2_getChar_3b067 32 = .ok (.aload_n 0, 1) := by decide +kernel
theorem dJ2_getChar_3b067_33 : decode cJ2_getChar_3b067 33 = .ok (.iload_n 1, 1) := by decide +kernel
theorem dJ2_getChar_3b067_34 : decode cJ2_getChar_3b067 34 = .ok (.iinc 1 1, 3) := by decide +kernel
theorem dJ2_getChar_3b067_37 : decode cJ2_getChar_3b067 37 = .ok (.baload, 1) := by decide +kernel
theorem dJ2_getChar_3b067_38 : decode cJ2_getChar_3b067 38 = .ok (.sipush 255, 3) := by decide +kernel
theorem dJ2_getChar_3b067_41 : decode cJ2_getChar_3b067 41 = .ok (.iand, 1) := by decide +kernel
theorem dJ2_getChar_3b067_42 : decode cJ2_getChar_3b067 42 = .ok (.getstatic 59, 3) := by decide +kernel
theorem dJ2_getChar_3b067_45 : decode cJ2_getChar_3b067 45 = .ok (.ishl, 1) := by decide +kernel
theorem dJ2_getChar_3b067_46 : decode cJ2_getChar_3b067 46 = .ok (.aload_n 0, 1) := by decide +kernel
theorem dJ2_getChar_3b067_47 : decode cJ2_getChar_3b067 47 = .ok (.iload_n 1, 1) := by decide +kernel
theorem dJ2_getChar_3b067_48 : decode cJ2_getChar_3b067 48 = .ok (.baload, 1) := by decide +kernel
theorem dJ2_getChar_3b067_49 : decode cJ2_getChar_3b067 49 = .ok (.sipush 255, 3) := by decide +kernel
theorem dJ2_getChar_3b067_52 : decode cJ2_getChar_3b067 52 = .ok (.iand, 1) := by decide +kernel
theorem dJ2_getChar_3b067_53 : decode cJ2_getChar_3b067 53 = .ok (.getstatic 63, 3) := by decide +kernel
theorem dJ2_getChar_3b067_56 : decode cJ2_getChar_3b067 56 = .ok (.ishl, 1) := by decide +kernel
theorem dJ2_getChar_3b067_57 : decode cJ2_getChar_3b067 57 = .ok (.ior, 1) := by decide +kernel
theorem dJ2_getChar_3b067_58 : decode cJ2_getChar_3b067 58 = .ok (.i2c, 1) := by decide +kernel
theorem dJ2_getChar_3b067_59 : decode cJ2_getChar_3b067 59 = .ok (.ireturn, 1) := by decide +kernel
theorem dJ2_length_9d52b_0 : decode cJ2_length_9d52b 0 = .ok (.aload_n 0, 1) := by decide +kernel
theorem dJ2_length_9d52b_1 : decode cJ2_length_9d52b 1 = .ok (.arraylength, 1) := by decide +kernel
theorem dJ2_length_9d52b_2 : decode cJ2_length_9d52b 2 = .ok (.iconst 1, 1) := by decide +kernel
theorem dJ2_length_9d52b_3 : decode cJ2_length_9d52b 3 = .ok (.ishr, 1) := by decide +kernel
theorem dJ2_length_9d52b_4 : decode cJ2_length_9d52b 4 = .ok (.ireturn, 1) := by decide +kernel
theorem dJ2_charAt_3b067_0 : decode cJ2_charAt_3b067 0 = .ok (.iload_n 1, 1) := by decide +kernel
theorem dJ2_charAt_3b067_1 : decode cJ2_charAt_3b067 1 = .ok (.aload_n 0, 1) := by decide +kernel
theorem dJ2_charAt_3b067_2 : decode cJ2_charAt_3b067 2 = .ok (.invokestatic 67, 3) := by decide +kernel
theorem dJ2_charAt_3b067_5 : decode cJ2_charAt_3b067 5 = .ok (.aload_n 0, 1) := by decide +kernel
theorem dJ2_charAt_3b067_6 : decode cJ2_charAt_3b067 6 = .ok (.iload_n 1, 1) := by decide +kernel
theorem dJ2_charAt_3b067_7 : decode cJ2_charAt_3b067 7 = .ok (.invokestatic 71, 3) := by decide +kernel
theorem dJ2_charAt_3b067_10 : decode cJ2_charAt_3b067 10 = .ok (.ireturn, 1) := by decide +kernel
theorem dJ2_checkIndex_2214a_0 : decode cJ2_checkIndex_2214a 0 = .ok (.iload_n 0, 1) := by decide +kernel
theorem dJ2_checkIndex_2214a_1 : decode cJ2_checkIndex_2214a 1 = .ok (.aload_n 1, 1) := by decide +kernel
theorem dJ2_checkIndex_2214a_2 : decode cJ2_checkIndex_2214a 2 = .ok (.invokestatic 48, 3) := by decide +kernel
theorem dJ2_checkIndex_2214a_5 : decode cJ2_checkIndex_2214a 5 = .ok (.invokestatic 414, 3) := by decide +kernel
theorem dJ2_checkIndex_2214a_8 : decode cJ2_checkIndex_2214a 8 = .ok (.return_, 1) := by decide +kernel
theorem dJ3_checkIndex_8e157_0 : decode cJ3_checkIndex_8e157 0 = .ok (.iload_n 0, 1) := by decide +kernel
theorem dJ3_checkIndex_8e157_1 : decode cJ3_checkIndex_8e157 1 = .ok (.ifCond .lt 8, 3) := by decide +kernel
theorem dJ3_checkIndex_8e157_4 : decode cJ3_checkIndex_8e157 4 = .ok (.iload_n 0, 1) := by decide +kernel
theorem dJ3_checkIndex_8e157_5 : decode cJ3_checkIndex_8e157 5 = .ok (.iload_n 1, 1) := by decide +kernel
theorem dJ3_checkIndex_8e157_6 : decode cJ3_checkIndex_8e157 6 = .ok (.if_icmp .lt 10, 3) := by decide +kernel
theorem dJ3_checkIndex_8e157_9 : decode cJ3_checkIndex_8e157 9 = .ok (.aload_n 2, 1) := by decide +kernel
theorem dJ3_checkIndex_8e157_10 : decode cJ3_checkIndex_8e157 10 = .ok (.iload_n 0, 1) := by decide +kernel
theorem dJ3_checkIndex_8e157_11 : decode cJ3_checkIndex_8e157 11 = .ok (.iload_n 1, 1) := by decide +kernel
theorem dJ3_checkIndex_8e157_12 : decode cJ3_checkIndex_8e157 12 = .ok (.invokestatic 95, 3) := by decide +kernel
theorem dJ3_checkIndex_8e157_15 : decode cJ3_checkIndex_8e157 15 = .ok (.athrow, 1) := by decide +kernel
theorem dJ3_checkIndex_8e157_16 : decode cJ3_checkIndex_8e157 16 = .ok (.iload_n 0, 1) := by decide +kernel
theorem dJ3_checkIndex_8e157_17 : decode cJ3_checkIndex_8e157 17 = .ok (.ireturn, 1) := by decide +kernel
theorem dL_law_0 : decode cL_law 0 = .ok (.new 7, 3) := by decide +kernel
theorem dL_law_3 : decode cL_law 3 = .ok (.dup, 1) := by decide +kernel
theorem dL_law_4 : decode cL_law 4 = .ok (.invokespecial 9, 3) := by decide +kernel
theorem dL_law_7 : decode cL_law 7 = .ok (.astore_n 1, 1) := by decide +kernel
theorem dL_law_8 : decode cL_law 8 = .ok (.new 10, 3) := by decide +kernel
theorem dL_law_11 : decode cL_law 11 = .ok (.dup, 1) := by decide +kernel
theorem dL_law_12 : decode cL_law 12 = .ok (.invokespecial 12, 3) := by decide +kernel
theorem dL_law_15 : decode cL_law 15 = .ok (.astore_n 2, 1) := by decide +kernel
theorem dL_law_16 : decode cL_law 16 = .ok (.iconst 0, 1) := by decide +kernel
theorem dL_law_17 : decode cL_law 17 = .ok (.istore_n 3, 1) := by decide +kernel
theorem dL_law_18 : decode cL_law 18 = .ok (.iload_n 3, 1) := by decide +kernel
theorem dL_law_19 : decode cL_law 19 = .ok (.aload_n 0, 1) := by decide +kernel
theorem dL_law_20 : decode cL_law 20 = .ok (.arraylength, 1) := by decide +kernel
theorem dL_law_21 : decode cL_law 21 = .ok (.iconst 5, 1) := by decide +kernel
theorem dL_law_22 : decode cL_law 22 = .ok (.isub, 1) := by decide +kernel
theorem dL_law_23 : decode cL_law 23 = .ok (.if_icmp .gt 896, 3) := by decide +kernel
theorem dL_law_26 : decode cL_law 26 = .ok (.aload_n 0, 1) := by decide +kernel
theorem dL_law_27 : decode cL_law 27 = .ok (.iload_n 3, 1) := by decide +kernel
theorem dL_law_28 : decode cL_law 28 = .ok (.iaload, 1) := by decide +kernel
theorem dL_law_29 : decode cL_law 29 = .ok (.bipush 31, 2) := by decide +kernel
theorem dL_law_31 : decode cL_law 31 = .ok (.iand, 1) := by decide +kernel
theorem dL_law_32 : decode cL_law 32 = .ok (.tableswitch 881 0 24 #[116, 139, 152, 165, 178, 221, 264, 317, 360, 403, 456, 489, 522, 535, 568, 601, 634, 657, 690, 713, 756, 789, 832, 845, 858], 116) := by decide +kernel
theorem dL_law_148 : decode cL_law 148 = .ok (.aload_n 1, 1) := by decide +kernel
theorem dL_law_149 : decode cL_law 149 = .ok (.aload_n 0, 1) := by decide +kernel
theorem dL_law_150 : decode cL_law 150 = .ok (.iload_n 3, 1) := by decide +kernel
theorem dL_law_151 : decode cL_law 151 = .ok (.iconst 1, 1) := by decide +kernel
theorem dL_law_152 : decode cL_law 152 = .ok (.iadd, 1) := by decide +kernel
theorem dL_law_153 : decode cL_law 153 = .ok (.iaload, 1) := by decide +kernel
theorem dL_law_154 : decode cL_law 154 = .ok (.invokevirtual 13, 3) := by decide +kernel
theorem dL_law_157 : decode cL_law 157 = .ok (.aload_n 2, 1) := by decide +kernel
theorem dL_law_158 : decode cL_law 158 = .ok (.aload_n 0, 1) := by decide +kernel
theorem dL_law_159 : decode cL_law 159 = .ok (.iload_n 3, 1) := by decide +kernel
theorem dL_law_160 : decode cL_law 160 = .ok (.iconst 1, 1) := by decide +kernel
theorem dL_law_161 : decode cL_law 161 = .ok (.iadd, 1) := by decide +kernel
theorem dL_law_162 : decode cL_law 162 = .ok (.iaload, 1) := by decide +kernel
theorem dL_law_163 : decode cL_law 163 = .ok (.invokevirtual 17, 3) := by decide +kernel
theorem dL_law_166 : decode cL_law 166 = .ok (.if_icmp .eq 747, 3) := by decide +kernel
theorem dL_law_169 : decode cL_law 169 = .ok (.iconst 0, 1) := by decide +kernel
theorem dL_law_170 : decode cL_law 170 = .ok (.ireturn, 1) := by decide +kernel
theorem dL_law_171 : decode cL_law 171 = .ok (.aload_n 1, 1) := by decide +kernel
theorem dL_law_172 : decode cL_law 172 = .ok (.invokevirtual 18, 3) := by decide +kernel
theorem dL_law_175 : decode cL_law 175 = .ok (.aload_n 2, 1) := by decide +kernel
theorem dL_law_176 : decode cL_law 176 = .ok (.invokevirtual 22, 3) := by decide +kernel
theorem dL_law_179 : decode cL_law 179 = .ok (.if_icmp .eq 734, 3) := by decide +kernel
theorem dL_law_182 : decode cL_law 182 = .ok (.iconst 0, 1) := by decide +kernel
theorem dL_law_183 : decode cL_law 183 = .ok (.ireturn, 1) := by decide +kernel
theorem dL_law_184 : decode cL_law 184 = .ok (.aload_n 1, 1) := by decide +kernel
theorem dL_law_185 : decode cL_law 185 = .ok (.invokevirtual 23, 3) := by decide +kernel
theorem dL_law_188 : decode cL_law 188 = .ok (.aload_n 2, 1) := by decide +kernel
theorem dL_law_189 : decode cL_law 189 = .ok (.invokevirtual 26, 3) := by decide +kernel
theorem dL_law_192 : decode cL_law 192 = .ok (.if_icmp .eq 721, 3) := by decide +kernel
theorem dL_law_195 : decode cL_law 195 = .ok (.iconst 0, 1) := by decide +kernel
theorem dL_law_196 : decode cL_law 196 = .ok (.ireturn, 1) := by decide +kernel
theorem dL_law_197 : decode cL_law 197 = .ok (.aload_n 1, 1) := by decide +kernel
theorem dL_law_198 : decode cL_law 198 = .ok (.invokevirtual 27, 3) := by decide +kernel
theorem dL_law_201 : decode cL_law 201 = .ok (.aload_n 2, 1) := by decide +kernel
theorem dL_law_202 : decode cL_law 202 = .ok (.invokevirtual 30, 3) := by decide +kernel
theorem dL_law_205 : decode cL_law 205 = .ok (.if_icmp .eq 708, 3) := by decide +kernel
theorem dL_law_208 : decode cL_law 208 = .ok (.iconst 0, 1) := by decide +kernel
theorem dL_law_209 : decode cL_law 209 = .ok (.ireturn, 1) := by decide +kernel
theorem dL_law_210 : decode cL_law 210 = .ok (.aload_n 1, 1) := by decide +kernel
theorem dL_law_211 : decode cL_law 211 = .ok (.aload_n 0, 1) := by decide +kernel
theorem dL_law_212 : decode cL_law 212 = .ok (.iload_n 3, 1) := by decide +kernel
theorem dL_law_213 : decode cL_law 213 = .ok (.iconst 1, 1) := by decide +kernel
theorem dL_law_214 : decode cL_law 214 = .ok (.iadd, 1) := by decide +kernel
theorem dL_law_215 : decode cL_law 215 = .ok (.iaload, 1) := by decide +kernel
theorem dL_law_216 : decode cL_law 216 = .ok (.aload_n 0, 1) := by decide +kernel
theorem dL_law_217 : decode cL_law 217 = .ok (.iload_n 3, 1) := by decide +kernel
theorem dL_law_218 : decode cL_law 218 = .ok (.iconst 2, 1) := by decide +kernel
theorem dL_law_219 : decode cL_law 219 = .ok (.iadd, 1) := by decide +kernel
theorem dL_law_220 : decode cL_law 220 = .ok (.iaload, 1) := by decide +kernel
theorem dL_law_221 : decode cL_law 221 = .ok (.aload_n 0, 1) := by decide +kernel
theorem dL_law_222 : decode cL_law 222 = .ok (.iload_n 3, 1) := by decide +kernel
theorem dL_law_223 : decode cL_law 223 = .ok (.iconst 3, 1) := by decide +kernel
theorem dL_law_224 : decode cL_law 224 = .ok (.iadd, 1) := by decide +kernel
theorem dL_law_225 : decode cL_law 225 = .ok (.iaload, 1) := by decide +kernel
theorem dL_law_226 : decode cL_law 226 = .ok (.invokevirtual 31, 3) := by decide +kernel
theorem dL_law_229 : decode cL_law 229 = .ok (.aload_n 2, 1) := by decide +kernel
theorem dL_law_230 : decode cL_law 230 = .ok (.aload_n 0, 1) := by decide +kernel
theorem dL_law_231 : decode cL_law 231 = .ok (.iload_n 3, 1) := by decide +kernel
theorem dL_law_232 : decode cL_law 232 = .ok (.iconst 1, 1) := by decide +kernel
theorem dL_law_233 : decode cL_law 233 = .ok (.iadd, 1) := by decide +kernel
theorem dL_law_234 : decode cL_law 234 = .ok (.iaload, 1) := by decide +kernel
theorem dL_law_235 : decode cL_law 235 = .ok (.aload_n 0, 1) := by decide +kernel
theorem dL_law_236 : decode cL_law 236 = .ok (.iload_n 3, 1) := by decide +kernel
theorem dL_law_237 : decode cL_law 237 = .ok (.iconst 2, 1) := by decide +kernel
theorem dL_law_238 : decode cL_law 238 = .ok (.iadd, 1) := by decide +kernel
theorem dL_law_239 : decode cL_law 239 = .ok (.iaload, 1) := by decide +kernel
theorem dL_law_240 : decode cL_law 240 = .ok (.aload_n 0, 1) := by decide +kernel
theorem dL_law_241 : decode cL_law 241 = .ok (.iload_n 3, 1) := by decide +kernel
theorem dL_law_242 : decode cL_law 242 = .ok (.iconst 3, 1) := by decide +kernel
theorem dL_law_243 : decode cL_law 243 = .ok (.iadd, 1) := by decide +kernel
theorem dL_law_244 : decode cL_law 244 = .ok (.iaload, 1) := by decide +kernel
theorem dL_law_245 : decode cL_law 245 = .ok (.invokevirtual 35, 3) := by decide +kernel
theorem dL_law_248 : decode cL_law 248 = .ok (.if_icmp .eq 665, 3) := by decide +kernel
theorem dL_law_251 : decode cL_law 251 = .ok (.iconst 0, 1) := by decide +kernel
theorem dL_law_252 : decode cL_law 252 = .ok (.ireturn, 1) := by decide +kernel
theorem dL_law_253 : decode cL_law 253 = .ok (.aload_n 1, 1) := by decide +kernel
theorem dL_law_254 : decode cL_law 254 = .ok (.aload_n 0, 1) := by decide +kernel
theorem dL_law_255 : decode cL_law 255 = .ok (.iload_n 3, 1) := by decide +kernel
theorem dL_law_256 : decode cL_law 256 = .ok (.iconst 1, 1) := by decide +kernel
theorem dL_law_257 : decode cL_law 257 = .ok (.iadd, 1) := by decide +kernel
theorem dL_law_258 : decode cL_law 258 = .ok (.iaload, 1) := by decide +kernel
theorem dL_law_259 : decode cL_law 259 = .ok (.aload_n 0, 1) := by decide +kernel
theorem dL_law_260 : decode cL_law 260 = .ok (.iload_n 3, 1) := by decide +kernel
theorem dL_law_261 : decode cL_law 261 = .ok (.iconst 2, 1) := by decide +kernel
theorem dL_law_262 : decode cL_law 262 = .ok (.iadd, 1) := by decide +kernel
theorem dL_law_263 : decode cL_law 263 = .ok (.iaload, 1) := by decide +kernel
theorem dL_law_264 : decode cL_law 264 = .ok (.aload_n 0, 1) := by decide +kernel
theorem dL_law_265 : decode cL_law 265 = .ok (.iload_n 3, 1) := by decide +kernel
theorem dL_law_266 : decode cL_law 266 = .ok (.iconst 3, 1) := by decide +kernel
theorem dL_law_267 : decode cL_law 267 = .ok (.iadd, 1) := by decide +kernel
theorem dL_law_268 : decode cL_law 268 = .ok (.iaload, 1) := by decide +kernel
theorem dL_law_269 : decode cL_law 269 = .ok (.invokevirtual 36, 3) := by decide +kernel
theorem dL_law_272 : decode cL_law 272 = .ok (.aload_n 2, 1) := by decide +kernel
theorem dL_law_273 : decode cL_law 273 = .ok (.aload_n 0, 1) := by decide +kernel
theorem dL_law_274 : decode cL_law 274 = .ok (.iload_n 3, 1) := by decide +kernel
theorem dL_law_275 : decode cL_law 275 = .ok (.iconst 1, 1) := by decide +kernel
theorem dL_law_276 : decode cL_law 276 = .ok (.iadd, 1) := by decide +kernel
theorem dL_law_277 : decode cL_law 277 = .ok (.iaload, 1) := by decide +kernel
theorem dL_law_278 : decode cL_law 278 = .ok (.aload_n 0, 1) := by decide +kernel
theorem dL_law_279 : decode cL_law 279 = .ok (.iload_n 3, 1) := by decide +kernel
theorem dL_law_280 : decode cL_law 280 = .ok (.iconst 2, 1) := by decide +kernel
theorem dL_law_281 : decode cL_law 281 = .ok (.iadd, 1) := by decide +kernel
theorem dL_law_282 : decode cL_law 282 = .ok (.iaload, 1) := by decide +kernel
theorem dL_law_283 : decode cL_law 283 = .ok (.aload_n 0, 1) := by decide +kernel
theorem dL_law_284 : decode cL_law 284 = .ok (.iload_n 3, 1) := by decide +kernel
theorem dL_law_285 : decode cL_law 285 = .ok (.iconst 3, 1) := by decide +kernel
theorem dL_law_286 : decode cL_law 286 = .ok (.iadd, 1) := by decide +kernel
theorem dL_law_287 : decode cL_law 287 = .ok (.iaload, 1) := by decide +kernel
theorem dL_law_288 : decode cL_law 288 = .ok (.invokevirtual 39, 3) := by decide +kernel
theorem dL_law_291 : decode cL_law 291 = .ok (.if_icmp .eq 622, 3) := by decide +kernel
theorem dL_law_294 : decode cL_law 294 = .ok (.iconst 0, 1) := by decide +kernel
theorem dL_law_295 : decode cL_law 295 = .ok (.ireturn, 1) := by decide +kernel
theorem dL_law_296 : decode cL_law 296 = .ok (.aload_n 1, 1) := by decide +kernel
theorem dL_law_297 : decode cL_law 297 = .ok (.aload_n 0, 1) := by decide +kernel
theorem dL_law_298 : decode cL_law 298 = .ok (.iload_n 3, 1) := by decide +kernel
theorem dL_law_299 : decode cL_law 299 = .ok (.iconst 1, 1) := by decide +kernel
theorem dL_law_300 : decode cL_law 300 = .ok (.iadd, 1) := by decide +kernel
theorem dL_law_301 : decode cL_law 301 = .ok (.iaload, 1) := by decide +kernel
theorem dL_law_302 : decode cL_law 302 = .ok (.aload_n 0, 1) := by decide +kernel
theorem dL_law_303 : decode cL_law 303 = .ok (.iload_n 3, 1) := by decide +kernel
theorem dL_law_304 : decode cL_law 304 = .ok (.iconst 2, 1) := by decide +kernel
theorem dL_law_305 : decode cL_law 305 = .ok (.iadd, 1) := by decide +kernel
theorem dL_law_306 : decode cL_law 306 = .ok (.iaload, 1) := by decide +kernel
theorem dL_law_307 : decode cL_law 307 = .ok (.aload_n 0, 1) := by decide +kernel
theorem dL_law_308 : decode cL_law 308 = .ok (.iload_n 3, 1) := by decide +kernel
theorem dL_law_309 : decode cL_law 309 = .ok (.iconst 3, 1) := by decide +kernel
theorem dL_law_310 : decode cL_law 310 = .ok (.iadd, 1) := by decide +kernel
theorem dL_law_311 : decode cL_law 311 = .ok (.iaload, 1) := by decide +kernel
theorem dL_law_312 : decode cL_law 312 = .ok (.aload_n 0, 1) := by decide +kernel
theorem dL_law_313 : decode cL_law 313 = .ok (.iload_n 3, 1) := by decide +kernel
theorem dL_law_314 : decode cL_law 314 = .ok (.iconst 4, 1) := by decide +kernel
theorem dL_law_315 : decode cL_law 315 = .ok (.iadd, 1) := by decide +kernel
theorem dL_law_316 : decode cL_law 316 = .ok (.iaload, 1) := by decide +kernel
theorem dL_law_317 : decode cL_law 317 = .ok (.invokevirtual 40, 3) := by decide +kernel
theorem dL_law_320 : decode cL_law 320 = .ok (.aload_n 2, 1) := by decide +kernel
theorem dL_law_321 : decode cL_law 321 = .ok (.aload_n 0, 1) := by decide +kernel
theorem dL_law_322 : decode cL_law 322 = .ok (.iload_n 3, 1) := by decide +kernel
theorem dL_law_323 : decode cL_law 323 = .ok (.iconst 1, 1) := by decide +kernel
theorem dL_law_324 : decode cL_law 324 = .ok (.iadd, 1) := by decide +kernel
theorem dL_law_325 : decode cL_law 325 = .ok (.iaload, 1) := by decide +kernel
theorem dL_law_326 : decode cL_law 326 = .ok (.aload_n 0, 1) := by decide +kernel
theorem dL_law_327 : decode cL_law 327 = .ok (.iload_n 3, 1) := by decide +kernel
theorem dL_law_328 : decode cL_law 328 = .ok (.iconst 2, 1) := by decide +kernel
theorem dL_law_329 : decode cL_law 329 = .ok (.iadd, 1) := by decide +kernel
theorem dL_law_330 : decode cL_law 330 = .ok (.iaload, 1) := by decide +kernel
theorem dL_law_331 : decode cL_law 331 = .ok (.aload_n 0, 1) := by decide +kernel
theorem dL_law_332 : decode cL_law 332 = .ok (.iload_n 3, 1) := by decide +kernel
theorem dL_law_333 : decode cL_law 333 = .ok (.iconst 3, 1) := by decide +kernel
theorem dL_law_334 : decode cL_law 334 = .ok (.iadd, 1) := by decide +kernel
theorem dL_law_335 : decode cL_law 335 = .ok (.iaload, 1) := by decide +kernel
theorem dL_law_336 : decode cL_law 336 = .ok (.aload_n 0, 1) := by decide +kernel
theorem dL_law_337 : decode cL_law 337 = .ok (.iload_n 3, 1) := by decide +kernel
theorem dL_law_338 : decode cL_law 338 = .ok (.iconst 4, 1) := by decide +kernel
theorem dL_law_339 : decode cL_law 339 = .ok (.iadd, 1) := by decide +kernel
theorem dL_law_340 : decode cL_law 340 = .ok (.iaload, 1) := by decide +kernel
theorem dL_law_341 : decode cL_law 341 = .ok (.invokevirtual 44, 3) := by decide +kernel
theorem dL_law_344 : decode cL_law 344 = .ok (.if_icmp .eq 569, 3) := by decide +kernel
theorem dL_law_347 : decode cL_law 347 = .ok (.iconst 0, 1) := by decide +kernel
theorem dL_law_348 : decode cL_law 348 = .ok (.ireturn, 1) := by decide +kernel
theorem dL_law_349 : decode cL_law 349 = .ok (.aload_n 1, 1) := by decide +kernel
theorem dL_law_350 : decode cL_law 350 = .ok (.aload_n 0, 1) := by decide +kernel
theorem dL_law_351 : decode cL_law 351 = .ok (.iload_n 3, 1) := by decide +kernel
theorem dL_law_352 : decode cL_law 352 = .ok (.iconst 1, 1) := by decide +kernel
theorem dL_law_353 : decode cL_law 353 = .ok (.iadd, 1) := by decide +kernel
theorem dL_law_354 : decode cL_law 354 = .ok (.iaload, 1) := by decide +kernel
theorem dL_law_355 : decode cL_law 355 = .ok (.aload_n 0, 1) := by decide +kernel
theorem dL_law_356 : decode cL_law 356 = .ok (.iload_n 3, 1) := by decide +kernel
theorem dL_law_357 : decode cL_law 357 = .ok (.iconst 2, 1) := by decide +kernel
theorem dL_law_358 : decode cL_law 358 = .ok (.iadd, 1) := by decide +kernel
theorem dL_law_359 : decode cL_law 359 = .ok (.iaload, 1) := by decide +kernel
theorem dL_law_360 : decode cL_law 360 = .ok (.aload_n 0, 1) := by decide +kernel
theorem dL_law_361 : decode cL_law 361 = .ok (.iload_n 3, 1) := by decide +kernel
theorem dL_law_362 : decode cL_law 362 = .ok (.iconst 3, 1) := by decide +kernel
theorem dL_law_363 : decode cL_law 363 = .ok (.iadd, 1) := by decide +kernel
theorem dL_law_364 : decode cL_law 364 = .ok (.iaload, 1) := by decide +kernel
theorem dL_law_365 : decode cL_law 365 = .ok (.invokevirtual 45, 3) := by decide +kernel
theorem dL_law_368 : decode cL_law 368 = .ok (.aload_n 2, 1) := by decide +kernel
theorem dL_law_369 : decode cL_law 369 = .ok (.aload_n 0, 1) := by decide +kernel
theorem dL_law_370 : decode cL_law 370 = .ok (.iload_n 3, 1) := by decide +kernel
theorem dL_law_371 : decode cL_law 371 = .ok (.iconst 1, 1) := by decide +kernel
theorem dL_law_372 : decode cL_law 372 = .ok (.iadd, 1) := by decide +kernel
theorem dL_law_373 : decode cL_law 373 = .ok (.iaload, 1) := by decide +kernel
theorem dL_law_374 : decode cL_law 374 = .ok (.aload_n 0, 1) := by decide +kernel
theorem dL_law_375 : decode cL_law 375 = .ok (.iload_n 3, 1) := by decide +kernel
theorem dL_law_376 : decode cL_law 376 = .ok (.iconst 2, 1) := by decide +kernel
theorem dL_law_377 : decode cL_law 377 = .ok (.iadd, 1) := by decide +kernel
theorem dL_law_378 : decode cL_law 378 = .ok (.iaload, 1) := by decide +kernel
theorem dL_law_379 : decode cL_law 379 = .ok (.aload_n 0, 1) := by decide +kernel
theorem dL_law_380 : decode cL_law 380 = .ok (.iload_n 3, 1) := by decide +kernel
theorem dL_law_381 : decode cL_law 381 = .ok (.iconst 3, 1) := by decide +kernel
theorem dL_law_382 : decode cL_law 382 = .ok (.iadd, 1) := by decide +kernel
theorem dL_law_383 : decode cL_law 383 = .ok (.iaload, 1) := by decide +kernel
theorem dL_law_384 : decode cL_law 384 = .ok (.invokevirtual 48, 3) := by decide +kernel
theorem dL_law_387 : decode cL_law 387 = .ok (.if_icmp .eq 526, 3) := by decide +kernel
theorem dL_law_390 : decode cL_law 390 = .ok (.iconst 0, 1) := by decide +kernel
theorem dL_law_391 : decode cL_law 391 = .ok (.ireturn, 1) := by decide +kernel
theorem dL_law_392 : decode cL_law 392 = .ok (.aload_n 1, 1) := by decide +kernel
theorem dL_law_393 : decode cL_law 393 = .ok (.aload_n 0, 1) := by decide +kernel
theorem dL_law_394 : decode cL_law 394 = .ok (.iload_n 3, 1) := by decide +kernel
theorem dL_law_395 : decode cL_law 395 = .ok (.iconst 1, 1) := by decide +kernel
theorem dL_law_396 : decode cL_law 396 = .ok (.iadd, 1) := by decide +kernel
theorem dL_law_397 : decode cL_law 397 = .ok (.iaload, 1) := by decide +kernel
theorem dL_law_398 : decode cL_law 398 = .ok (.aload_n 0, 1) := by decide +kernel
theorem dL_law_399 : decode cL_law 399 = .ok (.iload_n 3, 1) := by decide +kernel
theorem dL_law_400 : decode cL_law 400 = .ok (.iconst 2, 1) := by decide +kernel
theorem dL_law_401 : decode cL_law 401 = .ok (.iadd, 1) := by decide +kernel
theorem dL_law_402 : decode cL_law 402 = .ok (.iaload, 1) := by decide +kernel
theorem dL_law_403 : decode cL_law 403 = .ok (.aload_n 0, 1) := by decide +kernel
theorem dL_law_404 : decode cL_law 404 = .ok (.iload_n 3, 1) := by decide +kernel
theorem dL_law_405 : decode cL_law 405 = .ok (.iconst 3, 1) := by decide +kernel
theorem dL_law_406 : decode cL_law 406 = .ok (.iadd, 1) := by decide +kernel
theorem dL_law_407 : decode cL_law 407 = .ok (.iaload, 1) := by decide +kernel
theorem dL_law_408 : decode cL_law 408 = .ok (.invokevirtual 49, 3) := by decide +kernel
theorem dL_law_411 : decode cL_law 411 = .ok (.aload_n 2, 1) := by decide +kernel
theorem dL_law_412 : decode cL_law 412 = .ok (.aload_n 0, 1) := by decide +kernel
theorem dL_law_413 : decode cL_law 413 = .ok (.iload_n 3, 1) := by decide +kernel
theorem dL_law_414 : decode cL_law 414 = .ok (.iconst 1, 1) := by decide +kernel
theorem dL_law_415 : decode cL_law 415 = .ok (.iadd, 1) := by decide +kernel
theorem dL_law_416 : decode cL_law 416 = .ok (.iaload, 1) := by decide +kernel
theorem dL_law_417 : decode cL_law 417 = .ok (.aload_n 0, 1) := by decide +kernel
theorem dL_law_418 : decode cL_law 418 = .ok (.iload_n 3, 1) := by decide +kernel
theorem dL_law_419 : decode cL_law 419 = .ok (.iconst 2, 1) := by decide +kernel
theorem dL_law_420 : decode cL_law 420 = .ok (.iadd, 1) := by decide +kernel
theorem dL_law_421 : decode cL_law 421 = .ok (.iaload, 1) := by decide +kernel
theorem dL_law_422 : decode cL_law 422 = .ok (.aload_n 0, 1) := by decide +kernel
theorem dL_law_423 : decode cL_law 423 = .ok (.iload_n 3, 1) := by decide +kernel
theorem dL_law_424 : decode cL_law 424 = .ok (.iconst 3, 1) := by decide +kernel
theorem dL_law_425 : decode cL_law 425 = .ok (.iadd, 1) := by decide +kernel
theorem dL_law_426 : decode cL_law 426 = .ok (.iaload, 1) := by decide +kernel
theorem dL_law_427 : decode cL_law 427 = .ok (.invokevirtual 52, 3) := by decide +kernel
theorem dL_law_430 : decode cL_law 430 = .ok (.if_icmp .eq 483, 3) := by decide +kernel
theorem dL_law_433 : decode cL_law 433 = .ok (.iconst 0, 1) := by decide +kernel
theorem dL_law_434 : decode cL_law 434 = .ok (.ireturn, 1) := by decide +kernel
theorem dL_law_435 : decode cL_law 435 = .ok (.aload_n 1, 1) := by decide +kernel
theorem dL_law_436 : decode cL_law 436 = .ok (.aload_n 0, 1) := by decide +kernel
theorem dL_law_437 : decode cL_law 437 = .ok (.iload_n 3, 1) := by decide +kernel
theorem dL_law_438 : decode cL_law 438 = .ok (.iconst 1, 1) := by decide +kernel
theorem dL_law_439 : decode cL_law 439 = .ok (.iadd, 1) := by decide +kernel
theorem dL_law_440 : decode cL_law 440 = .ok (.iaload, 1) := by decide +kernel
theorem dL_law_441 : decode cL_law 441 = .ok (.aload_n 0, 1) := by decide +kernel
theorem dL_law_442 : decode cL_law 442 = .ok (.iload_n 3, 1) := by decide +kernel
theorem dL_law_443 : decode cL_law 443 = .ok (.iconst 2, 1) := by decide +kernel
theorem dL_law_444 : decode cL_law 444 = .ok (.iadd, 1) := by decide +kernel
theorem dL_law_445 : decode cL_law 445 = .ok (.iaload, 1) := by decide +kernel
theorem dL_law_446 : decode cL_law 446 = .ok (.aload_n 0, 1) := by decide +kernel
theorem dL_law_447 : decode cL_law 447 = .ok (.iload_n 3, 1) := by decide +kernel
theorem dL_law_448 : decode cL_law 448 = .ok (.iconst 3, 1) := by decide +kernel
theorem dL_law_449 : decode cL_law 449 = .ok (.iadd, 1) := by decide +kernel
theorem dL_law_450 : decode cL_law 450 = .ok (.iaload, 1) := by decide +kernel
theorem dL_law_451 : decode cL_law 451 = .ok (.aload_n 0, 1) := by decide +kernel
theorem dL_law_452 : decode cL_law 452 = .ok (.iload_n 3, 1) := by decide +kernel
theorem dL_law_453 : decode cL_law 453 = .ok (.iconst 4, 1) := by decide +kernel
theorem dL_law_454 : decode cL_law 454 = .ok (.iadd, 1) := by decide +kernel
theorem dL_law_455 : decode cL_law 455 = .ok (.iaload, 1) := by decide +kernel
theorem dL_law_456 : decode cL_law 456 = .ok (.invokevirtual 53, 3) := by decide +kernel
theorem dL_law_459 : decode cL_law 459 = .ok (.aload_n 2, 1) := by decide +kernel
theorem dL_law_460 : decode cL_law 460 = .ok (.aload_n 0, 1) := by decide +kernel
theorem dL_law_461 : decode cL_law 461 = .ok (.iload_n 3, 1) := by decide +kernel
theorem dL_law_462 : decode cL_law 462 = .ok (.iconst 1, 1) := by decide +kernel
theorem dL_law_463 : decode cL_law 463 = .ok (.iadd, 1) := by decide +kernel
theorem dL_law_464 : decode cL_law 464 = .ok (.iaload, 1) := by decide +kernel
theorem dL_law_465 : decode cL_law 465 = .ok (.aload_n 0, 1) := by decide +kernel
theorem dL_law_466 : decode cL_law 466 = .ok (.iload_n 3, 1) := by decide +kernel
theorem dL_law_467 : decode cL_law 467 = .ok (.iconst 2, 1) := by decide +kernel
theorem dL_law_468 : decode cL_law 468 = .ok (.iadd, 1) := by decide +kernel
theorem dL_law_469 : decode cL_law 469 = .ok (.iaload, 1) := by decide +kernel
theorem dL_law_470 : decode cL_law 470 = .ok (.aload_n 0, 1) := by decide +kernel
theorem dL_law_471 : decode cL_law 471 = .ok (.iload_n 3, 1) := by decide +kernel
theorem dL_law_472 : decode cL_law 472 = .ok (.iconst 3, 1) := by decide +kernel
theorem dL_law_473 : decode cL_law 473 = .ok (.iadd, 1) := by decide +kernel
theorem dL_law_474 : decode cL_law 474 = .ok (.iaload, 1) := by decide +kernel
theorem dL_law_475 : decode cL_law 475 = .ok (.aload_n 0, 1) := by decide +kernel
theorem dL_law_476 : decode cL_law 476 = .ok (.iload_n 3, 1) := by decide +kernel
theorem dL_law_477 : decode cL_law 477 = .ok (.iconst 4, 1) := by decide +kernel
theorem dL_law_478 : decode cL_law 478 = .ok (.iadd, 1) := by decide +kernel
theorem dL_law_479 : decode cL_law 479 = .ok (.iaload, 1) := by decide +kernel
theorem dL_law_480 : decode cL_law 480 = .ok (.invokevirtual 56, 3) := by decide +kernel
theorem dL_law_483 : decode cL_law 483 = .ok (.if_icmp .eq 430, 3) := by decide +kernel
theorem dL_law_486 : decode cL_law 486 = .ok (.iconst 0, 1) := by decide +kernel
theorem dL_law_487 : decode cL_law 487 = .ok (.ireturn, 1) := by decide +kernel
theorem dL_law_488 : decode cL_law 488 = .ok (.aload_n 1, 1) := by decide +kernel
theorem dL_law_489 : decode cL_law 489 = .ok (.aload_n 0, 1) := by decide +kernel
theorem dL_law_490 : decode cL_law 490 = .ok (.iload_n 3, 1) := by decide +kernel
theorem dL_law_491 : decode cL_law 491 = .ok (.iconst 1, 1) := by decide +kernel
theorem dL_law_492 : decode cL_law 492 = .ok (.iadd, 1) := by decide +kernel
theorem dL_law_493 : decode cL_law 493 = .ok (.iaload, 1) := by decide +kernel
theorem dL_law_494 : decode cL_law 494 = .ok (.aload_n 0, 1) := by decide +kernel
theorem dL_law_495 : decode cL_law 495 = .ok (.iload_n 3, 1) := by decide +kernel
theorem dL_law_496 : decode cL_law 496 = .ok (.iconst 2, 1) := by decide +kernel
theorem dL_law_497 : decode cL_law 497 = .ok (.iadd, 1) := by decide +kernel
theorem dL_law_498 : decode cL_law 498 = .ok (.iaload, 1) := by decide +kernel
theorem dL_law_499 : decode cL_law 499 = .ok (.invokevirtual 57, 3) := by decide +kernel
theorem dL_law_502 : decode cL_law 502 = .ok (.aload_n 2, 1) := by decide +kernel
theorem dL_law_503 : decode cL_law 503 = .ok (.aload_n 0, 1) := by decide +kernel
theorem dL_law_504 : decode cL_law 504 = .ok (.iload_n 3, 1) := by decide +kernel
theorem dL_law_505 : decode cL_law 505 = .ok (.iconst 1, 1) := by decide +kernel
theorem dL_law_506 : decode cL_law 506 = .ok (.iadd, 1) := by decide +kernel
theorem dL_law_507 : decode cL_law 507 = .ok (.iaload, 1) := by decide +kernel
theorem dL_law_508 : decode cL_law 508 = .ok (.aload_n 0, 1) := by decide +kernel
theorem dL_law_509 : decode cL_law 509 = .ok (.iload_n 3, 1) := by decide +kernel
theorem dL_law_510 : decode cL_law 510 = .ok (.iconst 2, 1) := by decide +kernel
theorem dL_law_511 : decode cL_law 511 = .ok (.iadd, 1) := by decide +kernel
theorem dL_law_512 : decode cL_law 512 = .ok (.iaload, 1) := by decide +kernel
theorem dL_law_513 : decode cL_law 513 = .ok (.invokevirtual 61, 3) := by decide +kernel
theorem dL_law_516 : decode cL_law 516 = .ok (.if_icmp .eq 397, 3) := by decide +kernel
theorem dL_law_519 : decode cL_law 519 = .ok (.iconst 0, 1) := by decide +kernel
theorem dL_law_520 : decode cL_law 520 = .ok (.ireturn, 1) := by decide +kernel
theorem dL_law_521 : decode cL_law 521 = .ok (.aload_n 1, 1) := by decide +kernel
theorem dL_law_522 : decode cL_law 522 = .ok (.aload_n 0, 1) := by decide +kernel
theorem dL_law_523 : decode cL_law 523 = .ok (.iload_n 3, 1) := by decide +kernel
theorem dL_law_524 : decode cL_law 524 = .ok (.iconst 1, 1) := by decide +kernel
theorem dL_law_525 : decode cL_law 525 = .ok (.iadd, 1) := by decide +kernel
theorem dL_law_526 : decode cL_law 526 = .ok (.iaload, 1) := by decide +kernel
theorem dL_law_527 : decode cL_law 527 = .ok (.aload_n 0, 1) := by decide +kernel
theorem dL_law_528 : decode cL_law 528 = .ok (.iload_n 3, 1) := by decide +kernel
theorem dL_law_529 : decode cL_law 529 = .ok (.iconst 2, 1) := by decide +kernel
theorem dL_law_530 : decode cL_law 530 = .ok (.iadd, 1) := by decide +kernel
theorem dL_law_531 : decode cL_law 531 = .ok (.iaload, 1) := by decide +kernel
theorem dL_law_532 : decode cL_law 532 = .ok (.invokevirtual 62, 3) := by decide +kernel
theorem dL_law_535 : decode cL_law 535 = .ok (.aload_n 2, 1) := by decide +kernel
theorem dL_law_536 : decode cL_law 536 = .ok (.aload_n 0, 1) := by decide +kernel
theorem dL_law_537 : decode cL_law 537 = .ok (.iload_n 3, 1) := by decide +kernel
theorem dL_law_538 : decode cL_law 538 = .ok (.iconst 1, 1) := by decide +kernel
theorem dL_law_539 : decode cL_law 539 = .ok (.iadd, 1) := by decide +kernel
theorem dL_law_540 : decode cL_law 540 = .ok (.iaload, 1) := by decide +kernel
theorem dL_law_541 : decode cL_law 541 = .ok (.aload_n 0, 1) := by decide +kernel
theorem dL_law_542 : decode cL_law 542 = .ok (.iload_n 3, 1) := by decide +kernel
theorem dL_law_543 : decode cL_law 543 = .ok (.iconst 2, 1) := by decide +kernel
theorem dL_law_544 : decode cL_law 544 = .ok (.iadd, 1) := by decide +kernel
theorem dL_law_545 : decode cL_law 545 = .ok (.iaload, 1) := by decide +kernel
theorem dL_law_546 : decode cL_law 546 = .ok (.invokevirtual 65, 3) := by decide +kernel
theorem dL_law_549 : decode cL_law 549 = .ok (.if_icmp .eq 364, 3) := by decide +kernel
theorem dL_law_552 : decode cL_law 552 = .ok (.iconst 0, 1) := by decide +kernel
theorem dL_law_553 : decode cL_law 553 = .ok (.ireturn, 1) := by decide +kernel
theorem dL_law_554 : decode cL_law 554 = .ok (.aload_n 1, 1) := by decide +kernel
theorem dL_law_555 : decode cL_law 555 = .ok (.invokevirtual 66, 3) := by decide +kernel
theorem dL_law_558 : decode cL_law 558 = .ok (.aload_n 2, 1) := by decide +kernel
theorem dL_law_559 : decode cL_law 559 = .ok (.invokevirtual 69, 3) := by decide +kernel
theorem dL_law_562 : decode cL_law 562 = .ok (.if_icmp .eq 351, 3) := by decide +kernel
theorem dL_law_565 : decode cL_law 565 = .ok (.iconst 0, 1) := by decide +kernel
theorem dL_law_566 : decode cL_law 566 = .ok (.ireturn, 1) := by decide +kernel
theorem dL_law_567 : decode cL_law 567 = .ok (.aload_n 1, 1) := by decide +kernel
theorem dL_law_568 : decode cL_law 568 = .ok (.aload_n 0, 1) := by decide +kernel
theorem dL_law_569 : decode cL_law 569 = .ok (.iload_n 3, 1) := by decide +kernel
theorem dL_law_570 : decode cL_law 570 = .ok (.iconst 1, 1) := by decide +kernel
theorem dL_law_571 : decode cL_law 571 = .ok (.iadd, 1) := by decide +kernel
theorem dL_law_572 : decode cL_law 572 = .ok (.iaload, 1) := by decide +kernel
theorem dL_law_573 : decode cL_law 573 = .ok (.aload_n 0, 1) := by decide +kernel
theorem dL_law_574 : decode cL_law 574 = .ok (.iload_n 3, 1) := by decide +kernel
theorem dL_law_575 : decode cL_law 575 = .ok (.iconst 2, 1) := by decide +kernel
theorem dL_law_576 : decode cL_law 576 = .ok (.iadd, 1) := by decide +kernel
theorem dL_law_577 : decode cL_law 577 = .ok (.iaload, 1) := by decide +kernel
theorem dL_law_578 : decode cL_law 578 = .ok (.invokevirtual 70, 3) := by decide +kernel
theorem dL_law_581 : decode cL_law 581 = .ok (.aload_n 2, 1) := by decide +kernel
theorem dL_law_582 : decode cL_law 582 = .ok (.aload_n 0, 1) := by decide +kernel
theorem dL_law_583 : decode cL_law 583 = .ok (.iload_n 3, 1) := by decide +kernel
theorem dL_law_584 : decode cL_law 584 = .ok (.iconst 1, 1) := by decide +kernel
theorem dL_law_585 : decode cL_law 585 = .ok (.iadd, 1) := by decide +kernel
theorem dL_law_586 : decode cL_law 586 = .ok (.iaload, 1) := by decide +kernel
theorem dL_law_587 : decode cL_law 587 = .ok (.aload_n 0, 1) := by decide +kernel
theorem dL_law_588 : decode cL_law 588 = .ok (.iload_n 3, 1) := by decide +kernel
theorem dL_law_589 : decode cL_law 589 = .ok (.iconst 2, 1) := by decide +kernel
theorem dL_law_590 : decode cL_law 590 = .ok (.iadd, 1) := by decide +kernel
theorem dL_law_591 : decode cL_law 591 = .ok (.iaload, 1) := by decide +kernel
theorem dL_law_592 : decode cL_law 592 = .ok (.invokevirtual 73, 3) := by decide +kernel
theorem dL_law_595 : decode cL_law 595 = .ok (.if_icmp .eq 318, 3) := by decide +kernel
theorem dL_law_598 : decode cL_law 598 = .ok (.iconst 0, 1) := by decide +kernel
theorem dL_law_599 : decode cL_law 599 = .ok (.ireturn, 1) := by decide +kernel
theorem dL_law_600 : decode cL_law 600 = .ok (.aload_n 1, 1) := by decide +kernel
theorem dL_law_601 : decode cL_law 601 = .ok (.aload_n 0, 1) := by decide +kernel
theorem dL_law_602 : decode cL_law 602 = .ok (.iload_n 3, 1) := by decide +kernel
theorem dL_law_603 : decode cL_law 603 = .ok (.iconst 1, 1) := by decide +kernel
theorem dL_law_604 : decode cL_law 604 = .ok (.iadd, 1) := by decide +kernel
theorem dL_law_605 : decode cL_law 605 = .ok (.iaload, 1) := by decide +kernel
theorem dL_law_606 : decode cL_law 606 = .ok (.aload_n 0, 1) := by decide +kernel
theorem dL_law_607 : decode cL_law 607 = .ok (.iload_n 3, 1) := by decide +kernel
theorem dL_law_608 : decode cL_law 608 = .ok (.iconst 2, 1) := by decide +kernel
theorem dL_law_609 : decode cL_law 609 = .ok (.iadd, 1) := by decide +kernel
theorem dL_law_610 : decode cL_law 610 = .ok (.iaload, 1) := by decide +kernel
theorem dL_law_611 : decode cL_law 611 = .ok (.invokevirtual 74, 3) := by decide +kernel
theorem dL_law_614 : decode cL_law 614 = .ok (.aload_n 2, 1) := by decide +kernel
theorem dL_law_615 : decode cL_law 615 = .ok (.aload_n 0, 1) := by decide +kernel
theorem dL_law_616 : decode cL_law 616 = .ok (.iload_n 3, 1) := by decide +kernel
theorem dL_law_617 : decode cL_law 617 = .ok (.iconst 1, 1) := by decide +kernel
theorem dL_law_618 : decode cL_law 618 = .ok (.iadd, 1) := by decide +kernel
theorem dL_law_619 : decode cL_law 619 = .ok (.iaload, 1) := by decide +kernel
theorem dL_law_620 : decode cL_law 620 = .ok (.aload_n 0, 1) := by decide +kernel
theorem dL_law_621 : decode cL_law 621 = .ok (.iload_n 3, 1) := by decide +kernel
theorem dL_law_622 : decode cL_law 622 = .ok (.iconst 2, 1) := by decide +kernel
theorem dL_law_623 : decode cL_law 623 = .ok (.iadd, 1) := by decide +kernel
theorem dL_law_624 : decode cL_law 624 = .ok (.iaload, 1) := by decide +kernel
theorem dL_law_625 : decode cL_law 625 = .ok (.invokevirtual 77, 3) := by decide +kernel
theorem dL_law_628 : decode cL_law 628 = .ok (.if_icmp .eq 285, 3) := by decide +kernel
theorem dL_law_631 : decode cL_law 631 = .ok (.iconst 0, 1) := by decide +kernel
theorem dL_law_632 : decode cL_law 632 = .ok (.ireturn, 1) := by decide +kernel
theorem dL_law_633 : decode cL_law 633 = .ok (.aload_n 1, 1) := by decide +kernel
theorem dL_law_634 : decode cL_law 634 = .ok (.aload_n 0, 1) := by decide +kernel
theorem dL_law_635 : decode cL_law 635 = .ok (.iload_n 3, 1) := by decide +kernel
theorem dL_law_636 : decode cL_law 636 = .ok (.iconst 1, 1) := by decide +kernel
theorem dL_law_637 : decode cL_law 637 = .ok (.iadd, 1) := by decide +kernel
theorem dL_law_638 : decode cL_law 638 = .ok (.iaload, 1) := by decide +kernel
theorem dL_law_639 : decode cL_law 639 = .ok (.aload_n 0, 1) := by decide +kernel
theorem dL_law_640 : decode cL_law 640 = .ok (.iload_n 3, 1) := by decide +kernel
theorem dL_law_641 : decode cL_law 641 = .ok (.iconst 2, 1) := by decide +kernel
theorem dL_law_642 : decode cL_law 642 = .ok (.iadd, 1) := by decide +kernel
theorem dL_law_643 : decode cL_law 643 = .ok (.iaload, 1) := by decide +kernel
theorem dL_law_644 : decode cL_law 644 = .ok (.invokevirtual 78, 3) := by decide +kernel
theorem dL_law_647 : decode cL_law 647 = .ok (.aload_n 2, 1) := by decide +kernel
theorem dL_law_648 : decode cL_law 648 = .ok (.aload_n 0, 1) := by decide +kernel
theorem dL_law_649 : decode cL_law 649 = .ok (.iload_n 3, 1) := by decide +kernel
theorem dL_law_650 : decode cL_law 650 = .ok (.iconst 1, 1) := by decide +kernel
theorem dL_law_651 : decode cL_law 651 = .ok (.iadd, 1) := by decide +kernel
theorem dL_law_652 : decode cL_law 652 = .ok (.iaload, 1) := by decide +kernel
theorem dL_law_653 : decode cL_law 653 = .ok (.aload_n 0, 1) := by decide +kernel
theorem dL_law_654 : decode cL_law 654 = .ok (.iload_n 3, 1) := by decide +kernel
theorem dL_law_655 : decode cL_law 655 = .ok (.iconst 2, 1) := by decide +kernel
theorem dL_law_656 : decode cL_law 656 = .ok (.iadd, 1) := by decide +kernel
theorem dL_law_657 : decode cL_law 657 = .ok (.iaload, 1) := by decide +kernel
theorem dL_law_658 : decode cL_law 658 = .ok (.invokevirtual 81, 3) := by decide +kernel
theorem dL_law_661 : decode cL_law 661 = .ok (.if_icmp .eq 252, 3) := by decide +kernel
theorem dL_law_664 : decode cL_law 664 = .ok (.iconst 0, 1) := by decide +kernel
theorem dL_law_665 : decode cL_law 665 = .ok (.ireturn, 1) := by decide +kernel
theorem dL_law_666 : decode cL_law 666 = .ok (.aload_n 1, 1) := by decide +kernel
theorem dL_law_667 : decode cL_law 667 = .ok (.aload_n 0, 1) := by decide +kernel
theorem dL_law_668 : decode cL_law 668 = .ok (.iload_n 3, 1) := by decide +kernel
theorem dL_law_669 : decode cL_law 669 = .ok (.iconst 1, 1) := by decide +kernel
theorem dL_law_670 : decode cL_law 670 = .ok (.iadd, 1) := by decide +kernel
theorem dL_law_671 : decode cL_law 671 = .ok (.iaload, 1) := by decide +kernel
theorem dL_law_672 : decode cL_law 672 = .ok (.invokevirtual 82, 3) := by decide +kernel
theorem dL_law_675 : decode cL_law 675 = .ok (.aload_n 2, 1) := by decide +kernel
theorem dL_law_676 : decode cL_law 676 = .ok (.aload_n 0, 1) := by decide +kernel
theorem dL_law_677 : decode cL_law 677 = .ok (.iload_n 3, 1) := by decide +kernel
theorem dL_law_678 : decode cL_law 678 = .ok (.iconst 1, 1) := by decide +kernel
theorem dL_law_679 : decode cL_law 679 = .ok (.iadd, 1) := by decide +kernel
theorem dL_law_680 : decode cL_law 680 = .ok (.iaload, 1) := by decide +kernel
theorem dL_law_681 : decode cL_law 681 = .ok (.invokevirtual 85, 3) := by decide +kernel
theorem dL_law_684 : decode cL_law 684 = .ok (.if_icmp .eq 229, 3) := by decide +kernel
theorem dL_law_687 : decode cL_law 687 = .ok (.iconst 0, 1) := by decide +kernel
theorem dL_law_688 : decode cL_law 688 = .ok (.ireturn, 1) := by decide +kernel
theorem dL_law_689 : decode cL_law 689 = .ok (.aload_n 1, 1) := by decide +kernel
theorem dL_law_690 : decode cL_law 690 = .ok (.aload_n 0, 1) := by decide +kernel
theorem dL_law_691 : decode cL_law 691 = .ok (.iload_n 3, 1) := by decide +kernel
theorem dL_law_692 : decode cL_law 692 = .ok (.iconst 1, 1) := by decide +kernel
theorem dL_law_693 : decode cL_law 693 = .ok (.iadd, 1) := by decide +kernel
theorem dL_law_694 : decode cL_law 694 = .ok (.iaload, 1) := by decide +kernel
theorem dL_law_695 : decode cL_law 695 = .ok (.aload_n 0, 1) := by decide +kernel
theorem dL_law_696 : decode cL_law 696 = .ok (.iload_n 3, 1) := by decide +kernel
theorem dL_law_697 : decode cL_law 697 = .ok (.iconst 2, 1) := by decide +kernel
theorem dL_law_698 : decode cL_law 698 = .ok (.iadd, 1) := by decide +kernel
theorem dL_law_699 : decode cL_law 699 = .ok (.iaload, 1) := by decide +kernel
theorem dL_law_700 : decode cL_law 700 = .ok (.invokevirtual 86, 3) := by decide +kernel
theorem dL_law_703 : decode cL_law 703 = .ok (.aload_n 2, 1) := by decide +kernel
theorem dL_law_704 : decode cL_law 704 = .ok (.aload_n 0, 1) := by decide +kernel
theorem dL_law_705 : decode cL_law 705 = .ok (.iload_n 3, 1) := by decide +kernel
theorem dL_law_706 : decode cL_law 706 = .ok (.iconst 1, 1) := by decide +kernel
theorem dL_law_707 : decode cL_law 707 = .ok (.iadd, 1) := by decide +kernel
theorem dL_law_708 : decode cL_law 708 = .ok (.iaload, 1) := by decide +kernel
theorem dL_law_709 : decode cL_law 709 = .ok (.aload_n 0, 1) := by decide +kernel
theorem dL_law_710 : decode cL_law 710 = .ok (.iload_n 3, 1) := by decide +kernel
theorem dL_law_711 : decode cL_law 711 = .ok (.iconst 2, 1) := by decide +kernel
theorem dL_law_712 : decode cL_law 712 = .ok (.iadd, 1) := by decide +kernel
theorem dL_law_713 : decode cL_law 713 = .ok (.iaload, 1) := by decide +kernel
theorem dL_law_714 : decode cL_law 714 = .ok (.invokevirtual 89, 3) := by decide +kernel
theorem dL_law_717 : decode cL_law 717 = .ok (.if_icmp .eq 196, 3) := by decide +kernel
theorem dL_law_720 : decode cL_law 720 = .ok (.iconst 0, 1) := by decide +kernel
theorem dL_law_721 : decode cL_law 721 = .ok (.ireturn, 1) := by decide +kernel
theorem dL_law_722 : decode cL_law 722 = .ok (.aload_n 1, 1) := by decide +kernel
theorem dL_law_723 : decode cL_law 723 = .ok (.aload_n 0, 1) := by decide +kernel
theorem dL_law_724 : decode cL_law 724 = .ok (.iload_n 3, 1) := by decide +kernel
theorem dL_law_725 : decode cL_law 725 = .ok (.iconst 1, 1) := by decide +kernel
theorem dL_law_726 : decode cL_law 726 = .ok (.iadd, 1) := by decide +kernel
theorem dL_law_727 : decode cL_law 727 = .ok (.iaload, 1) := by decide +kernel
theorem dL_law_728 : decode cL_law 728 = .ok (.invokevirtual 90, 3) := by decide +kernel
theorem dL_law_731 : decode cL_law 731 = .ok (.aload_n 2, 1) := by decide +kernel
theorem dL_law_732 : decode cL_law 732 = .ok (.aload_n 0, 1) := by decide +kernel
theorem dL_law_733 : decode cL_law 733 = .ok (.iload_n 3, 1) := by decide +kernel
theorem dL_law_734 : decode cL_law 734 = .ok (.iconst 1, 1) := by decide +kernel
theorem dL_law_735 : decode cL_law 735 = .ok (.iadd, 1) := by decide +kernel
theorem dL_law_736 : decode cL_law 736 = .ok (.iaload, 1) := by decide +kernel
theorem dL_law_737 : decode cL_law 737 = .ok (.invokevirtual 93, 3) := by decide +kernel
theorem dL_law_740 : decode cL_law 740 = .ok (.if_icmp .eq 173, 3) := by decide +kernel
theorem dL_law_743 : decode cL_law 743 = .ok (.iconst 0, 1) := by decide +kernel
theorem dL_law_744 : decode cL_law 744 = .ok (.ireturn, 1) := by decide +kernel
theorem dL_law_745 : decode cL_law 745 = .ok (.aload_n 1, 1) := by decide +kernel
theorem dL_law_746 : decode cL_law 746 = .ok (.aload_n 0, 1) := by decide +kernel
theorem dL_law_747 : decode cL_law 747 = .ok (.iload_n 3, 1) := by decide +kernel
theorem dL_law_748 : decode cL_law 748 = .ok (.iconst 1, 1) := by decide +kernel
theorem dL_law_749 : decode cL_law 749 = .ok (.iadd, 1) := by decide +kernel
theorem dL_law_750 : decode cL_law 750 = .ok (.iaload, 1) := by decide +kernel
theorem dL_law_751 : decode cL_law 751 = .ok (.aload_n 0, 1) := by decide +kernel
theorem dL_law_752 : decode cL_law 752 = .ok (.iload_n 3, 1) := by decide +kernel
theorem dL_law_753 : decode cL_law 753 = .ok (.iconst 2, 1) := by decide +kernel
theorem dL_law_754 : decode cL_law 754 = .ok (.iadd, 1) := by decide +kernel
theorem dL_law_755 : decode cL_law 755 = .ok (.iaload, 1) := by decide +kernel
theorem dL_law_756 : decode cL_law 756 = .ok (.aload_n 0, 1) := by decide +kernel
theorem dL_law_757 : decode cL_law 757 = .ok (.iload_n 3, 1) := by decide +kernel
theorem dL_law_758 : decode cL_law 758 = .ok (.iconst 3, 1) := by decide +kernel
theorem dL_law_759 : decode cL_law 759 = .ok (.iadd, 1) := by decide +kernel
theorem dL_law_760 : decode cL_law 760 = .ok (.iaload, 1) := by decide +kernel
theorem dL_law_761 : decode cL_law 761 = .ok (.invokevirtual 94, 3) := by decide +kernel
theorem dL_law_764 : decode cL_law 764 = .ok (.aload_n 2, 1) := by decide +kernel
theorem dL_law_765 : decode cL_law 765 = .ok (.aload_n 0, 1) := by decide +kernel
theorem dL_law_766 : decode cL_law 766 = .ok (.iload_n 3, 1) := by decide +kernel
theorem dL_law_767 : decode cL_law 767 = .ok (.iconst 1, 1) := by decide +kernel
theorem dL_law_768 : decode cL_law 768 = .ok (.iadd, 1) := by decide +kernel
theorem dL_law_769 : decode cL_law 769 = .ok (.iaload, 1) := by decide +kernel
theorem dL_law_770 : decode cL_law 770 = .ok (.aload_n 0, 1) := by decide +kernel
theorem dL_law_771 : decode cL_law 771 = .ok (.iload_n 3, 1) := by decide +kernel
theorem dL_law_772 : decode cL_law 772 = .ok (.iconst 2, 1) := by decide +kernel
theorem dL_law_773 : decode cL_law 773 = .ok (.iadd, 1) := by decide +kernel
theorem dL_law_774 : decode cL_law 774 = .ok (.iaload, 1) := by decide +kernel
theorem dL_law_775 : decode cL_law 775 = .ok (.aload_n 0, 1) := by decide +kernel
theorem dL_law_776 : decode cL_law 776 = .ok (.iload_n 3, 1) := by decide +kernel
theorem dL_law_777 : decode cL_law 777 = .ok (.iconst 3, 1) := by decide +kernel
theorem dL_law_778 : decode cL_law 778 = .ok (.iadd, 1) := by decide +kernel
theorem dL_law_779 : decode cL_law 779 = .ok (.iaload, 1) := by decide +kernel
theorem dL_law_780 : decode cL_law 780 = .ok (.invokevirtual 97, 3) := by decide +kernel
theorem dL_law_783 : decode cL_law 783 = .ok (.if_icmp .eq 130, 3) := by decide +kernel
theorem dL_law_786 : decode cL_law 786 = .ok (.iconst 0, 1) := by decide +kernel
theorem dL_law_787 : decode cL_law 787 = .ok (.ireturn, 1) := by decide +kernel
theorem dL_law_788 : decode cL_law 788 = .ok (.aload_n 1, 1) := by decide +kernel
theorem dL_law_789 : decode cL_law 789 = .ok (.aload_n 0, 1) := by decide +kernel
theorem dL_law_790 : decode cL_law 790 = .ok (.iload_n 3, 1) := by decide +kernel
theorem dL_law_791 : decode cL_law 791 = .ok (.iconst 1, 1) := by decide +kernel
theorem dL_law_792 : decode cL_law 792 = .ok (.iadd, 1) := by decide +kernel
theorem dL_law_793 : decode cL_law 793 = .ok (.iaload, 1) := by decide +kernel
theorem dL_law_794 : decode cL_law 794 = .ok (.aload_n 0, 1) := by decide +kernel
theorem dL_law_795 : decode cL_law 795 = .ok (.iload_n 3, 1) := by decide +kernel
theorem dL_law_796 : decode cL_law 796 = .ok (.iconst 2, 1) := by decide +kernel
theorem dL_law_797 : decode cL_law 797 = .ok (.iadd, 1) := by decide +kernel
theorem dL_law_798 : decode cL_law 798 = .ok (.iaload, 1) := by decide +kernel
theorem dL_law_799 : decode cL_law 799 = .ok (.invokevirtual 98, 3) := by decide +kernel
theorem dL_law_802 : decode cL_law 802 = .ok (.aload_n 2, 1) := by decide +kernel
theorem dL_law_803 : decode cL_law 803 = .ok (.aload_n 0, 1) := by decide +kernel
theorem dL_law_804 : decode cL_law 804 = .ok (.iload_n 3, 1) := by decide +kernel
theorem dL_law_805 : decode cL_law 805 = .ok (.iconst 1, 1) := by decide +kernel
theorem dL_law_806 : decode cL_law 806 = .ok (.iadd, 1) := by decide +kernel
theorem dL_law_807 : decode cL_law 807 = .ok (.iaload, 1) := by decide +kernel
theorem dL_law_808 : decode cL_law 808 = .ok (.aload_n 0, 1) := by decide +kernel
theorem dL_law_809 : decode cL_law 809 = .ok (.iload_n 3, 1) := by decide +kernel
theorem dL_law_810 : decode cL_law 810 = .ok (.iconst 2, 1) := by decide +kernel
theorem dL_law_811 : decode cL_law 811 = .ok (.iadd, 1) := by decide +kernel
theorem dL_law_812 : decode cL_law 812 = .ok (.iaload, 1) := by decide +kernel
theorem dL_law_813 : decode cL_law 813 = .ok (.invokevirtual 101, 3) := by decide +kernel
theorem dL_law_816 : decode cL_law 816 = .ok (.if_icmp .eq 97, 3) := by decide +kernel
theorem dL_law_819 : decode cL_law 819 = .ok (.iconst 0, 1) := by decide +kernel
theorem dL_law_820 : decode cL_law 820 = .ok (.ireturn, 1) := by decide +kernel
theorem dL_law_821 : decode cL_law 821 = .ok (.aload_n 1, 1) := by decide +kernel
theorem dL_law_822 : decode cL_law 822 = .ok (.aload_n 0, 1) := by decide +kernel
theorem dL_law_823 : decode cL_law 823 = .ok (.iload_n 3, 1) := by decide +kernel
theorem dL_law_824 : decode cL_law 824 = .ok (.iconst 1, 1) := by decide +kernel
theorem dL_law_825 : decode cL_law 825 = .ok (.iadd, 1) := by decide +kernel
theorem dL_law_826 : decode cL_law 826 = .ok (.iaload, 1) := by decide +kernel
theorem dL_law_827 : decode cL_law 827 = .ok (.aload_n 0, 1) := by decide +kernel
theorem dL_law_828 : decode cL_law 828 = .ok (.iload_n 3, 1) := by decide +kernel
theorem dL_law_829 : decode cL_law 829 = .ok (.iconst 2, 1) := by decide +kernel
theorem dL_law_830 : decode cL_law 830 = .ok (.iadd, 1) := by decide +kernel
theorem dL_law_831 : decode cL_law 831 = .ok (.iaload, 1) := by decide +kernel
theorem dL_law_832 : decode cL_law 832 = .ok (.aload_n 0, 1) := by decide +kernel
theorem dL_law_833 : decode cL_law 833 = .ok (.iload_n 3, 1) := by decide +kernel
theorem dL_law_834 : decode cL_law 834 = .ok (.iconst 3, 1) := by decide +kernel
theorem dL_law_835 : decode cL_law 835 = .ok (.iadd, 1) := by decide +kernel
theorem dL_law_836 : decode cL_law 836 = .ok (.iaload, 1) := by decide +kernel
theorem dL_law_837 : decode cL_law 837 = .ok (.invokevirtual 102, 3) := by decide +kernel
theorem dL_law_840 : decode cL_law 840 = .ok (.aload_n 2, 1) := by decide +kernel
theorem dL_law_841 : decode cL_law 841 = .ok (.aload_n 0, 1) := by decide +kernel
theorem dL_law_842 : decode cL_law 842 = .ok (.iload_n 3, 1) := by decide +kernel
theorem dL_law_843 : decode cL_law 843 = .ok (.iconst 1, 1) := by decide +kernel
theorem dL_law_844 : decode cL_law 844 = .ok (.iadd, 1) := by decide +kernel
theorem dL_law_845 : decode cL_law 845 = .ok (.iaload, 1) := by decide +kernel
theorem dL_law_846 : decode cL_law 846 = .ok (.aload_n 0, 1) := by decide +kernel
theorem dL_law_847 : decode cL_law 847 = .ok (.iload_n 3, 1) := by decide +kernel
theorem dL_law_848 : decode cL_law 848 = .ok (.iconst 2, 1) := by decide +kernel
theorem dL_law_849 : decode cL_law 849 = .ok (.iadd, 1) := by decide +kernel
theorem dL_law_850 : decode cL_law 850 = .ok (.iaload, 1) := by decide +kernel
theorem dL_law_851 : decode cL_law 851 = .ok (.aload_n 0, 1) := by decide +kernel
theorem dL_law_852 : decode cL_law 852 = .ok (.iload_n 3, 1) := by decide +kernel
theorem dL_law_853 : decode cL_law 853 = .ok (.iconst 3, 1) := by decide +kernel
theorem dL_law_854 : decode cL_law 854 = .ok (.iadd, 1) := by decide +kernel
theorem dL_law_855 : decode cL_law 855 = .ok (.iaload, 1) := by decide +kernel
theorem dL_law_856 : decode cL_law 856 = .ok (.invokevirtual 105, 3) := by decide +kernel
theorem dL_law_859 : decode cL_law 859 = .ok (.if_icmp .eq 54, 3) := by decide +kernel
theorem dL_law_862 : decode cL_law 862 = .ok (.iconst 0, 1) := by decide +kernel
theorem dL_law_863 : decode cL_law 863 = .ok (.ireturn, 1) := by decide +kernel
theorem dL_law_864 : decode cL_law 864 = .ok (.aload_n 1, 1) := by decide +kernel
theorem dL_law_865 : decode cL_law 865 = .ok (.invokevirtual 106, 3) := by decide +kernel
theorem dL_law_868 : decode cL_law 868 = .ok (.aload_n 2, 1) := by decide +kernel
theorem dL_law_869 : decode cL_law 869 = .ok (.invokevirtual 109, 3) := by decide +kernel
theorem dL_law_872 : decode cL_law 872 = .ok (.if_icmp .eq 41, 3) := by decide +kernel
theorem dL_law_875 : decode cL_law 875 = .ok (.iconst 0, 1) := by decide +kernel
theorem dL_law_876 : decode cL_law 876 = .ok (.ireturn, 1) := by decide +kernel
theorem dL_law_877 : decode cL_law 877 = .ok (.aload_n 1, 1) := by decide +kernel
theorem dL_law_878 : decode cL_law 878 = .ok (.invokevirtual 110, 3) := by decide +kernel
theorem dL_law_881 : decode cL_law 881 = .ok (.aload_n 2, 1) := by decide +kernel
theorem dL_law_882 : decode cL_law 882 = .ok (.invokevirtual 113, 3) := by decide +kernel
theorem dL_law_885 : decode cL_law 885 = .ok (.if_icmp .eq 28, 3) := by decide +kernel
theorem dL_law_888 : decode cL_law 888 = .ok (.iconst 0, 1) := by decide +kernel
theorem dL_law_889 : decode cL_law 889 = .ok (.ireturn, 1) := by decide +kernel
theorem dL_law_890 : decode cL_law 890 = .ok (.aload_n 1, 1) := by decide +kernel
theorem dL_law_891 : decode cL_law 891 = .ok (.aload_n 0, 1) := by decide +kernel
theorem dL_law_892 : decode cL_law 892 = .ok (.iload_n 3, 1) := by decide +kernel
theorem dL_law_893 : decode cL_law 893 = .ok (.iconst 1, 1) := by decide +kernel
theorem dL_law_894 : decode cL_law 894 = .ok (.iadd, 1) := by decide +kernel
theorem dL_law_895 : decode cL_law 895 = .ok (.iaload, 1) := by decide +kernel
theorem dL_law_896 : decode cL_law 896 = .ok (.invokevirtual 114, 3) := by decide +kernel
theorem dL_law_899 : decode cL_law 899 = .ok (.aload_n 2, 1) := by decide +kernel
theorem dL_law_900 : decode cL_law 900 = .ok (.aload_n 0, 1) := by decide +kernel
theorem dL_law_901 : decode cL_law 901 = .ok (.iload_n 3, 1) := by decide +kernel
theorem dL_law_902 : decode cL_law 902 = .ok (.iconst 1, 1) := by decide +kernel
theorem dL_law_903 : decode cL_law 903 = .ok (.iadd, 1) := by decide +kernel
theorem dL_law_904 : decode cL_law 904 = .ok (.iaload, 1) := by decide +kernel
theorem dL_law_905 : decode cL_law 905 = .ok (.invokevirtual 117, 3) := by decide +kernel
theorem dL_law_908 : decode cL_law 908 = .ok (.if_icmp .eq 5, 3) := by decide +kernel
theorem dL_law_911 : decode cL_law 911 = .ok (.iconst 0, 1) := by decide +kernel
theorem dL_law_912 : decode cL_law 912 = .ok (.ireturn, 1) := by decide +kernel
theorem dL_law_913 : decode cL_law 913 = .ok (.iinc 3 5, 3) := by decide +kernel
theorem dL_law_916 : decode cL_law 916 = .ok (.goto (-898), 3) := by decide +kernel
theorem dL_law_919 : decode cL_law 919 = .ok (.iconst 1, 1) := by decide +kernel
theorem dL_law_920 : decode cL_law 920 = .ok (.ireturn, 1) := by decide +kernel
end
section
/-! ===== the layer: a contract from world to world (no cell comes), one row an instruction, over a bundled context ===== -/
abbrev GE : Type := Launch × va_G × (Nat → ClassId)
abbrev MD : Type := MethodName × ByteArray × Nat × Option FieldType × Room
abbrev GC : Type := Program × Env × State × MethodId × Array Value × List Frame × Method × Code × (Nat → Prop) × (State → Prop)
def tysA (z : Nat → ClassId) : List (ClassId × FieldType) := [(z 0, .int), (z 1, .char), (z 2, .array .int), (z 3, .object "TwoSurveys$Towns")]
def nwL : List (String × Nat × MethodName × String) := [("TwoSurveys", 9, ⟨"TwoSurveys$Text", "<init>", "()V"⟩, "TwoSurveys"), ("TwoSurveys", 18, ⟨"TwoSurveys$Reader", "<init>", "()V"⟩, "TwoSurveys"), ("TwoSurveys", 25, ⟨"TwoSurveys$Towns", "<init>", "()V"⟩, "TwoSurveys"), ("TwoSurveys$Towns", 11, ⟨"TwoSurveys$Survey", "<init>", "()V"⟩, "TwoSurveys"), ("TwoSurveys$Pile", 21, ⟨"TwoSurveys$Towns", "<init>", "()V"⟩, "TwoSurveys"), ("TwoSurveys", 51, ⟨"TwoSurveys$Matching", "<init>", "()V"⟩, "TwoSurveys"), ("TwoSurveys", 58, ⟨"TwoSurveys$Way", "<init>", "()V"⟩, "TwoSurveys"), ("TwoSurveys", 65, ⟨"TwoSurveys$Transfer", "<init>", "()V"⟩, "TwoSurveys"), ("TwoSurveys$Reader", 49, ⟨"TwoSurveys", "isWithin", "(III)Z"⟩, "TwoSurveys"), ("TwoSurveys$Towns", 35, ⟨"TwoSurveys", "isRadius", "(I)Z"⟩, "TwoSurveys"), ("TwoSurveys$Towns", 39, ⟨"TwoSurveys", "isRounds", "(I)Z"⟩, "TwoSurveys"), ("TwoSurveys$Survey", 61, ⟨"TwoSurveys", "isWithin", "(III)Z"⟩, "TwoSurveys"), ("TwoSurveys$Matching", 62, ⟨"TwoSurveys", "isWithin", "(III)Z"⟩, "TwoSurveys"), ("TwoSurveys$Way", 23, ⟨"TwoSurveys", "isWithin", "(III)Z"⟩, "TwoSurveys"), ("TwoSurveys$Shelves", 18, ⟨"TwoSurveys", "isWithin", "(III)Z"⟩, "TwoSurveys")]
def EV (E : GE) (U : State) : Prop := va_K E.2.1 vwCl (tysA E.2.2) U ∧ ∀ q ∈ nwL, va_Nw (.methodLinkNest q.1 q.2.1 q.2.2.1 q.2.2.2) U
theorem EV.warm {E : GE} {s U : State} (hW : s.WarmedH U.vm) (h : EV E s) : EV E U := ⟨va_K.moved hW.alike h.1, fun q hq => va_Nw.warmM hW (h.2 q hq)⟩
theorem EV.blind {E : GE} {U : State} (g : JFrame) (mk : MethodId) (a : Array Value) (h : EV E U) : EV E (U.calling g mk a) :=
  ⟨va_K.moved (u := U) (U := U.calling g mk a) (Vm.Alike.refl U.vm) h.1, fun q hq => va_Nw.same rfl (rfl : U.vm = (U.calling g mk a).vm) (h.2 q hq)⟩
def TT : List Cond := lw_tbl.filter goodWord
theorem tt_of {w : Cond} (i : Nat) (h : lw_tbl[i]? = some w) (hg : goodWord w = true) : w ∈ TT := List.mem_filter.mpr ⟨List.mem_of_getElem? h, hg⟩
theorem tt_good : ∀ w ∈ TT, (w.onTables && w.keeps) = true ∨ ∃ ty, w = .arrayClass ty := fun w h => good_of_word (List.mem_filter.mp h).2
theorem tt_lw {w : Cond} (h : w ∈ TT) : w ∈ lw_tbl := (List.mem_filter.mp h).1
/-- the world behind: the callee's cells in the places of its old ones -/
def va_rep : va_W → List Nat → va_W → va_W
  | ws, i :: is, c :: cs => va_rep (ws.set i c) is cs
  | ws, _, _ => ws
theorem va_rep_get : ∀ (is : List Nat) (cs ws : va_W) (k : Nat) (q : Nat × va_E), is.length = cs.length → (va_rep ws is cs)[k]? = some q → (∃ t : Nat, is[t]? = some k ∧ cs[t]? = some q) ∨ (k ∉ is ∧ ws[k]? = some q)
  | [], cs, ws, k, q, _, h => Or.inr ⟨List.not_mem_nil, by unfold va_rep at h; exact h⟩
  | i :: is, [], ws, k, q, hl, h => by simp at hl
  | i :: is, c :: cs, ws, k, q, hl, h => by
    unfold va_rep at h
    rcases va_rep_get is cs (ws.set i c) k q (by simpa using hl) h with ⟨t, h1, h2⟩ | ⟨h1, h2⟩
    · exact Or.inl ⟨t + 1, by simpa using h1, by simpa using h2⟩
    · by_cases hk : k = i
      · subst hk
        have hlt := (List.getElem?_eq_some_iff.mp h2).1
        rw [List.length_set] at hlt
        rw [List.getElem?_set_self hlt] at h2
        cases h2
        exact Or.inl ⟨0, rfl, rfl⟩
      · rw [List.getElem?_set_ne (Ne.symm hk)] at h2
        exact Or.inr ⟨fun hm => by rcases List.mem_cons.mp hm with e | e; exact hk e; exact h1 e, h2⟩
theorem va_places {is : List Nat} {ws w : va_W} (hs : is.map (fun i => ws[i]?) = w.map some) {k : Nat} {q : Nat × va_E} (hq : w[k]? = some q) : ∃ i, is[k]? = some i ∧ ws[i]? = some q := by
  have h1 : (is.map (fun i => ws[i]?))[k]? = some (some q) := by rw [hs, List.getElem?_map, hq]; rfl
  rw [List.getElem?_map] at h1
  cases hi : is[k]? with
  | none => rw [hi] at h1; cases h1
  | some i => rw [hi] at h1; exact ⟨i, rfl, Option.some.inj h1⟩
theorem va_placed {is : List Nat} {ws w : va_W} (hs : is.map (fun i => ws[i]?) = w.map some) {k i : Nat} (hk : is[k]? = some i) : ∃ q, w[k]? = some q ∧ ws[i]? = some q := by
  have h1 : (w.map some)[k]? = some (ws[i]?) := by rw [← hs, List.getElem?_map, hk]; rfl
  rw [List.getElem?_map] at h1
  cases hi : w[k]? with
  | none => rw [hi] at h1; cases h1
  | some q => rw [hi] at h1; exact ⟨q, rfl, (Option.some.inj h1).symm⟩
theorem va_rep_P {A0 : Nat → Prop} {D : va_G} {cl : List vw_C} {ws wc w1 : va_W} {H H1 : Heap} (hP : va_P D cl ws H) (hD : va_D A0 ws) (isC : List Nat) (hC : isC.map (fun i => ws[i]?) = wc.map some) (ha : w1.map Prod.fst = wc.map Prod.fst)
    (hk : ∀ q : Nat, q < H.size → ¬ va_A wc H.size q → H1[q]? = H[q]?) (hP1 : va_P D cl w1 H1) : va_P D cl (va_rep ws isC w1) H1 ∧ va_D A0 (va_rep ws isC w1) := by
  have hlen : isC.length = w1.length := by
    have e1 := congrArg List.length hC
    have e2 := congrArg List.length ha
    simp at e1 e2
    omega
  have key : ∀ (k : Nat) (q : Nat × va_E), (va_rep ws isC w1)[k]? = some q → ∃ q0, ws[k]? = some q0 ∧ q0.1 = q.1 := by
    intro k q h
    rcases va_rep_get isC w1 ws k q hlen h with ⟨t, h1, h2⟩ | ⟨-, h2⟩
    · obtain ⟨q0, g1, g2⟩ := va_placed hC h1
      refine ⟨q0, g2, ?_⟩
      have e : (w1.map Prod.fst)[t]? = (wc.map Prod.fst)[t]? := by rw [ha]
      rw [List.getElem?_map, List.getElem?_map, h2, g1] at e
      exact (Option.some.inj e).symm
    · exact ⟨q, h2, rfl⟩
  refine ⟨fun k q h => ?_, fun i j x y hi hj hxy => ?_, fun k q h => ?_⟩
  · rcases va_rep_get isC w1 ws k q hlen h with ⟨t, h1, h2⟩ | ⟨h1, h2⟩
    · exact hP1 t q h2
    · have hlt := (hP k q h2).lt
      refine (hP k q h2).kept (hk q.1 hlt fun hA => ?_)
      rcases hA with ⟨j, e, h3⟩ | h3
      · obtain ⟨i, g1, g2⟩ := va_places hC h3
        have := hD.1 k i q (q.1, e) h2 g2 rfl
        subst this
        exact h1 (List.mem_of_getElem? g1)
      · omega
  · obtain ⟨x0, h1, h2⟩ := key i x hi
    obtain ⟨y0, h3, h4⟩ := key j y hj
    exact hD.1 i j x0 y0 h1 h3 (h2.trans (hxy.trans h4.symm))
  · obtain ⟨q0, h1, h2⟩ := key k q h
    rw [← h2]
    exact hD.2 k q0 h1
/-- what a method gives back: the answer v, the world w' -/
def CTq (E : GE) (v : Option Value) (w' : va_W) (A : Nat → Prop) : Array Value → State → Outcome → State → Prop := fun _ st oc t => (oc = .returned v ∧ va_P E.2.1 vwCl w' t.heap) ∧ va_F A st t
def CTp (E : GE) (w : va_W) (sz : Nat) : State → Prop := fun U => U.heap.size = sz ∧ va_P E.2.1 vwCl w U.heap ∧ EV E U ∧ va_D (fun _ => True) w
/-- the contract: from world w with the arguments av, the answer v and the world w' -/
def CT (E : GE) (μ : MD) (av : List Value) (w : va_W) (v : Option Value) (w' : va_W) : Prop :=
  ∀ sz : Nat, Met E.1 μ.1 (.code μ.1 μ.2.1 μ.2.2.1 μ.2.2.2.1 :: TT) μ.2.2.2.2 (va_Pc av (CTp E w sz)) (CTq E v w' (va_A w sz)) 0 0 (va_A w sz)
/-- at an instruction: from every heap that holds ws -/
def GG (E : GE) (μ : MD) (Γ : GC) (cells slots : Nat) (ws : va_W) (lv : List (Nat × Value)) (pc : Nat) (st : List Value) : Prop :=
  ∀ (H : Heap) (locs : List Loc) (ls : Array Slot), va_P E.2.1 vwCl ws H → va_D Γ.2.2.2.2.2.2.2.2.1 ws → va_S Γ.2.2.2.2.2.2.2.2.1 Γ.2.2.1.heap H locs → lv_has ls μ.2.2.1 lv →
    W Γ.1 E.1 Γ.2.1 μ.2.2.2.2 Γ.2.2.1 Γ.2.2.2.1 Γ.2.2.2.2.1 Γ.2.2.2.2.2.1 Γ.2.2.2.2.2.2.1 Γ.2.2.2.2.2.2.2.1 H locs cells slots Γ.2.2.2.2.2.2.2.2.2 (F0 Γ.2.2.2.1 pc ls st)
def CX (E : GE) (μ : MD) (Γ : GC) : Prop :=
  CallFix Γ.1 Γ.2.2.2.1 Γ.2.2.2.2.2.2.2.1 μ.2.1 μ.2.2.1 Γ.2.2.1 Γ.2.2.2.2.1 TT μ.1.cls ∧ EV E Γ.2.2.1 ∧ (∀ q, Γ.2.2.1.heap.size ≤ q → Γ.2.2.2.2.2.2.2.2.1 q) ∧ Γ.2.2.2.2.2.2.1.sig.returnType = μ.2.2.2.1 ∧ Γ.2.2.2.2.2.2.1.locks = false ∧ Γ.2.2.2.2.2.2.1.name = μ.1.name
def RX (E : GE) (μ : MD) (Γ : GC) (v : Option Value) (w' : va_W) : Prop :=
  Γ.2.2.2.2.2.2.2.2.2 = MQ Γ.2.2.2.2.2.1 (CTq E v w' Γ.2.2.2.2.2.2.2.2.1) Γ.2.2.2.2.1 Γ.2.2.1 0 0 Γ.2.2.2.2.2.2.2.2.1
theorem CT.intro {E : GE} {μ : MD} {av : List Value} {w : va_W} {v : Option Value} {w' : va_W} (hy : plainName μ.1.cls = true) (hlen : (lg_sl av).length ≤ μ.2.2.1)
    (body : ∀ Γ : GC, CX E μ Γ → RX E μ Γ v w' → GG E μ Γ 0 0 w (lv_args 0 av) 0 []) : CT E μ av w v w' := by
  intro sz
  refine Met.ofW (cc := μ.2.1) (maxL := μ.2.2.1) (ret := μ.2.2.2.1) hy rfl ?_
  intro p e s m args below meth c s₁ B hml hv
  obtain ⟨rfl, hsz, hP, hK, hD0⟩ := hv
  subst hsz
  have hts := atoms_spec (ws := Cond.code μ.1 μ.2.1 μ.2.2.1 μ.2.2.2.1 :: TT) B.pre
  rw [lg_entry_eq]
  exact body (p, e, s, m, av.toArray, below, meth, c, va_A w s.heap.size, MQ below (CTq E v w' (va_A w s.heap.size)) av.toArray s 0 0 (va_A w s.heap.size))
    ⟨⟨B.exec, B.bytes, hml, findClass_of_methodNamed B.named, fun w hw => hts w (List.mem_cons_of_mem _ hw)⟩, hK, fun q h => Or.inr h, B.returns, B.notSynchronized, (name_of_methodNamed B.named B.method).1⟩ rfl
    s.heap [] _ hP hD0.self va_S.rf (lv_entry av hlen)
theorem GG.eq {E : GE} {μ : MD} {Γ : GC} {cells slots : Nat} {ws ws' : va_W} {lv : List (Nat × Value)} {pc : Nat} {st st' : List Value} (hw : ws = ws') (hs : st = st') (k : GG E μ Γ cells slots ws' lv pc st') : GG E μ Γ cells slots ws lv pc st := by
  subst hw; subst hs; exact k
theorem GG.wd {E : GE} {μ : MD} {Γ : GC} {cells slots c1 s1 : Nat} {ws : va_W} {lv : List (Nat × Value)} {pc : Nat} {st : List Value} (h1 : cells ≤ c1) (h2 : slots ≤ s1) (k : GG E μ Γ c1 s1 ws lv pc st) : GG E μ Γ cells slots ws lv pc st :=
  fun H locs ls hP hD hS hl => W.widen h1 h2 (k H locs ls hP hD hS hl)
/-- fewer locals, in any order -/
theorem GG.lv {E : GE} {μ : MD} {Γ : GC} {cells slots : Nat} {ws : va_W} {lv lv' : List (Nat × Value)} {pc : Nat} {st : List Value} (ks : List Nat) (h : lv_pick lv ks = lv') (k : GG E μ Γ cells slots ws lv' pc st) : GG E μ Γ cells slots ws lv pc st :=
  fun H locs ls hP hD hS hl => k H locs ls hP hD hS (lv_sub hl ks h)
/-- an index that is in its row -/
def ix (i : Int32) (j n : Nat) : Prop := vp_in i n ∧ i.toNatClampNeg = j
theorem ix_nI {j n : Nat} (h : j < n) (hn : n < 2 ^ 31) : ix (nI j) j n := ⟨vp_in_nI h hn, nI_clamp (by omega)⟩
theorem ix_eq {i : Int32} {j n : Nat} (e : i = nI j) (h : j < n) (hn : n < 2 ^ 31) : ix i j n := by rw [e]; exact ix_nI h hn
theorem ix_self {i : Int32} {n : Nat} (h : vp_in i n) : ix i i.toNatClampNeg n := ⟨h, rfl⟩
/-- 1 or 0 -/
def b2i (b : Bool) : Int32 := if b then 1 else 0
theorem b2i_0 {b : Bool} : b2i b = 0 ↔ b = false := by cases b <;> decide
theorem b2i_1 {b : Bool} : b2i b = 1 ↔ b = true := by cases b <;> decide
/-- a field that is read: the class, its words, the link -/
def FSite (own : String) (idx ci k : Nat) : Prop := ∃ (C : String) (T : u_T) (N : Nat), vwCl[ci]? = some (C, T, N) ∧ (∀ w ∈ u_ws C T N, w ∈ TT) ∧ k < N ∧ Cond.fieldLink own idx (T k).1 (T k).2.1 (T k).2.2.1 ∈ TT
/-- a field that is written -/
def PSite (own : String) (idx ci k : Nat) (fin : Bool) (ty : FieldType) : Prop := ∃ (C : String) (T : u_T) (N : Nat) (ty0 : Nat → FieldType), vwCl[ci]? = some (C, T, N) ∧ (∀ w ∈ u_ws C T N, w ∈ TT) ∧ k < N ∧ Cond.fieldLink own idx (T k).1 (T k).2.1 (T k).2.2.1 ∈ TT ∧
  (∀ k, k < N → parseFieldDescriptor (T k).2.2.1 = some (ty0 k)) ∧ (∀ a, a < N → ∀ b, b < N → a ≠ b → (T a).2.1 ≠ (T b).2.1) ∧ (T k).2.2.2 = fin ∧ ty0 k = ty ∧ (T k).1 = own
/-- a call: its words, its form -/
def VSite (own : String) (idx : Nat) (ν : MD) (n : Nat) : Prop := GoodIn TT (wsV own idx ν.1.cls ν.1 (.code ν.1 ν.2.1 ν.2.2.1 ν.2.2.2.1 :: TT)) ∧ (ν.1.cls = ν.1.cls ∧ ν.1.cls ≠ "java/lang/invoke/MethodHandle" ∧ ν.1.cls ≠ "java/lang/invoke/VarHandle" ∧ (parseMethodDescriptor ν.1.desc).map (fun d => d.parameters.length) = some n)
def SSite (own : String) (idx : Nat) (ν : MD) (n : Nat) : Prop := GoodIn TT (wsS own idx ν.1 (.code ν.1 ν.2.1 ν.2.2.1 ν.2.2.2.1 :: TT)) ∧ (ν.1.cls = own ∧ ν.1.cls ≠ "java/lang/invoke/MethodHandle" ∧ ν.1.cls ≠ "java/lang/invoke/VarHandle" ∧ (parseMethodDescriptor ν.1.desc).map (fun d => d.parameters.length) = some n)
/-- a static method of a nest mate -/
def NSite (own : String) (idx : Nat) (ν : MD) (host : String) (n : Nat) : Prop := GoodIn TT (.code ν.1 ν.2.1 ν.2.2.1 ν.2.2.2.1 :: TT) ∧ (own, idx, ν.1, host) ∈ nwL ∧ Cond.static ν.1 ∈ TT ∧ Cond.initialized ν.1.cls ∈ TT ∧ (ν.1.cls ≠ "java/lang/invoke/MethodHandle" ∧ ν.1.cls ≠ "java/lang/invoke/VarHandle" ∧ (parseMethodDescriptor ν.1.desc).map (fun d => d.parameters.length) = some n)
theorem tt_cons {c : Cond} (h : c ∈ TT) : GoodIn TT (c :: TT) := fun w hw => by
  rcases List.mem_cons.mp hw with e | e
  · subst e; exact ⟨h, tt_good _ h⟩
  · exact ⟨e, tt_good _ e⟩
theorem tt_app {ws ws' : List Cond} (h : ∀ w ∈ ws, w ∈ TT) (h' : GoodIn TT ws') : GoodIn TT (ws ++ ws') := fun w hw => by
  rcases List.mem_append.mp hw with e | e
  · exact ⟨h w e, tt_good _ (h w e)⟩
  · exact h' w e
theorem vsite {own : String} {idx n : Nat} {ν : MD} (h1 : Cond.methodLink own idx ν.1 ∈ TT) (h2 : Cond.instanceMethod ν.1 ∈ TT) (h3 : Cond.selects ν.1.cls ν.1 ν.1 ∈ TT) (h4 : Cond.initialized ν.1.cls ∈ TT) (h5 : Cond.code ν.1 ν.2.1 ν.2.2.1 ν.2.2.2.1 ∈ TT)
    (hd : ν.1.cls ≠ "java/lang/invoke/MethodHandle" ∧ ν.1.cls ≠ "java/lang/invoke/VarHandle" ∧ (parseMethodDescriptor ν.1.desc).map (fun d => d.parameters.length) = some n) : VSite own idx ν n :=
  ⟨tt_app (List.forall_mem_cons.mpr ⟨h1, List.forall_mem_cons.mpr ⟨h2, List.forall_mem_cons.mpr ⟨h3, List.forall_mem_cons.mpr ⟨h4, fun _ h => absurd h List.not_mem_nil⟩⟩⟩⟩) (tt_cons h5), rfl, hd⟩
theorem ssite {own : String} {idx n : Nat} {ν : MD} (h0 : ν.1.cls = own) (h1 : Cond.methodLink own idx ν.1 ∈ TT) (h2 : Cond.static ν.1 ∈ TT) (h4 : Cond.initialized own ∈ TT) (h5 : Cond.code ν.1 ν.2.1 ν.2.2.1 ν.2.2.2.1 ∈ TT)
    (hd : ν.1.cls ≠ "java/lang/invoke/MethodHandle" ∧ ν.1.cls ≠ "java/lang/invoke/VarHandle" ∧ (parseMethodDescriptor ν.1.desc).map (fun d => d.parameters.length) = some n) : SSite own idx ν n :=
  ⟨tt_app (List.forall_mem_cons.mpr ⟨h1, List.forall_mem_cons.mpr ⟨h2, List.forall_mem_cons.mpr ⟨h4, fun _ h => absurd h List.not_mem_nil⟩⟩⟩) (tt_cons h5), h0, hd⟩
/-- the room of a callee, in its caller's -/
def rmOK (ν μ : MD) : Bool := decide (ν.2.2.2.2.cells = 0) && (decide (ν.2.2.2.2.slots = 0) && (decide (ν.2.2.2.2.frames + 1 ≤ μ.2.2.2.2.frames) && decide (8 + (ν.2.2.1 + 11) + ν.2.2.2.2.locals ≤ μ.2.2.2.2.locals)))
section GGR
variable {p : Program} {l : Launch} {e : Env} {R : Room} {s : State} {m : MethodId} {args : Array Value} {below : List Frame} {meth : Method} {c : Code} {H : Heap} {locs : List Loc} {cells slots : Nat} {Q : State → Prop}
theorem run_go {E : GE} {v : Option Value} {w' : va_W} {A0 A1 : Nat → Prop} {H0 : Heap} {a : Array Value} {free : Addr → Prop} {rest st0 : List Value} {pc : Nat} {ls : Array Slot} {mc ms : Nat}
    (hr : va_Run p l e R s m args below meth c H locs cells slots mc ms (F0 m pc ls st0) rest (CTq E v w' A1 a) free) (hS : va_S A0 H0 H locs) (hA : ∀ q, q < H.size → A1 q → A0 q) (hf : ∀ q, free q → A0 q)
    (kk : ∀ (H1 : Heap) (locs1 : List Loc), va_P E.2.1 vwCl w' H1 → H.size ≤ H1.size → (∀ q : Nat, q < H.size → ¬ A1 q → H1[q]? = H[q]?) → va_S A0 H0 H1 locs1 → W p l e R s m args below meth c H1 locs1 (cells + mc) (slots + ms) Q (F0 m (pc + 3) ls (v.toList ++ rest))) : W p l e R s m args below meth c H locs cells slots Q (F0 m pc ls st0) := by
  intro T hT X
  obtain ⟨v1, st₀, t, T', L, h0, X', hL, e1, e2, ⟨⟨hv, hp⟩, hz, hk⟩, st⟩ := hr T hT X
  cases hv
  rw [h0] at hz hk
  obtain ⟨t2, a1, b1⟩ := kk T'.heap (locs ++ L) (by rw [e1]; exact hp) (by rw [e1]; exact hz) (fun q h1 h2 => by rw [e1]; exact hk q h1 h2)
    ⟨Nat.le_trans hS.1 (by rw [e1]; exact hz), fun q h1 h2 => by rw [e1, hk q (Nat.lt_of_lt_of_le h1 hS.1) (fun z => h2 (hA q (Nat.lt_of_lt_of_le h1 hS.1) z))]; exact hS.2.1 q h1 h2, fun q hq => by
      rcases List.mem_append.mp hq with h | h
      · exact hS.2.2 q h
      · exact hf _ (hL q h)⟩ T' rfl X'
  exact ⟨t2, st t2 a1, b1⟩
end GGR
theorem CTp.blind {E : GE} {w : va_W} {sz : Nat} {av : List Value} : FrameBlind (va_Pc av (CTp E w sz)) := fun a U g mk q => ⟨q.1, q.2.1, q.2.2.1, EV.blind g mk a q.2.2.2.1, q.2.2.2.2⟩
section GGI
variable {E : GE} {μ : MD} {Γ : GC} {cells slots : Nat} {ws ws' : va_W} {lv lv' : List (Nat × Value)} {pc : Nat} {rest : List Value}
theorem g_iconst (X : CX E μ Γ) {n : Int} {v : Int32} (d : decode μ.2.1 pc = .ok (.iconst n, 1)) (hv : Int32.ofInt n = v)
    (k : GG E μ Γ cells slots ws lv (pc + 1) (.int v :: rest)) : GG E μ Γ cells slots ws lv pc (rest) := fun H locs ls hP hD hS hl => lv_iconst X.1.1 X.1.2.1 d hv (k H locs ls hP hD hS hl)
theorem g_bipush (X : CX E μ Γ) {n : Int} {v : Int32} (d : decode μ.2.1 pc = .ok (.bipush n, 2)) (hv : (Int8.ofInt n).toInt32 = v)
    (k : GG E μ Γ cells slots ws lv (pc + 2) (.int v :: rest)) : GG E μ Γ cells slots ws lv pc (rest) := fun H locs ls hP hD hS hl => lv_bipush X.1.1 X.1.2.1 d hv (k H locs ls hP hD hS hl)
theorem g_sipush (X : CX E μ Γ) {n : Int} {v : Int32} (d : decode μ.2.1 pc = .ok (.sipush n, 3)) (hv : (Int16.ofInt n).toInt32 = v)
    (k : GG E μ Γ cells slots ws lv (pc + 3) (.int v :: rest)) : GG E μ Γ cells slots ws lv pc (rest) := fun H locs ls hP hD hS hl => lv_sipush X.1.1 X.1.2.1 d hv (k H locs ls hP hD hS hl)
theorem g_lconst (X : CX E μ Γ) {n : Fin 2} {v : Int64} (d : decode μ.2.1 pc = .ok (.lconst n, 1)) (hv : Int64.ofNat (n : Nat) = v)
    (k : GG E μ Γ cells slots ws lv (pc + 1) (.long v :: rest)) : GG E μ Γ cells slots ws lv pc (rest) := fun H locs ls hP hD hS hl => lv_lconst X.1.1 X.1.2.1 d hv (k H locs ls hP hD hS hl)
theorem g_iload_n (X : CX E μ Γ) {k0 : Fin 4} (q : Nat) {x : Int32} (d : decode μ.2.1 pc = .ok (.iload_n k0, 1)) (h : lv[q]? = some ((k0 : Nat), .int x))
    (k : GG E μ Γ cells slots ws lv (pc + 1) (.int x :: rest)) : GG E μ Γ cells slots ws lv pc (rest) := fun H locs ls hP hD hS hl => lv_iload_n X.1.1 X.1.2.1 d rfl (lv_at hl q h) (k H locs ls hP hD hS hl)
theorem g_iload (X : CX E μ Γ) {i : Nat} (q : Nat) {x : Int32} (d : decode μ.2.1 pc = .ok (.iload i, 2)) (h : lv[q]? = some (i, .int x))
    (k : GG E μ Γ cells slots ws lv (pc + 2) (.int x :: rest)) : GG E μ Γ cells slots ws lv pc (rest) := fun H locs ls hP hD hS hl => lv_iload X.1.1 X.1.2.1 d (lv_at hl q h) (k H locs ls hP hD hS hl)
theorem g_lload_n (X : CX E μ Γ) {k0 : Fin 4} (q : Nat) {x : Int64} (d : decode μ.2.1 pc = .ok (.lload_n k0, 1)) (h : lv[q]? = some ((k0 : Nat), .long x))
    (k : GG E μ Γ cells slots ws lv (pc + 1) (.long x :: rest)) : GG E μ Γ cells slots ws lv pc (rest) := fun H locs ls hP hD hS hl => lv_lload_n X.1.1 X.1.2.1 d rfl (lv_at hl q h) (k H locs ls hP hD hS hl)
theorem g_lload (X : CX E μ Γ) {i : Nat} (q : Nat) {x : Int64} (d : decode μ.2.1 pc = .ok (.lload i, 2)) (h : lv[q]? = some (i, .long x))
    (k : GG E μ Γ cells slots ws lv (pc + 2) (.long x :: rest)) : GG E μ Γ cells slots ws lv pc (rest) := fun H locs ls hP hD hS hl => lv_lload X.1.1 X.1.2.1 d (lv_at hl q h) (k H locs ls hP hD hS hl)
theorem g_aload_n (X : CX E μ Γ) {k0 : Fin 4} (q : Nat) {x : Nat} (d : decode μ.2.1 pc = .ok (.aload_n k0, 1)) (h : lv[q]? = some ((k0 : Nat), .ref x))
    (k : GG E μ Γ cells slots ws lv (pc + 1) (.ref x :: rest)) : GG E μ Γ cells slots ws lv pc (rest) := fun H locs ls hP hD hS hl => lv_aload_n X.1.1 X.1.2.1 d rfl (lv_at hl q h) (k H locs ls hP hD hS hl)
theorem g_aload (X : CX E μ Γ) {i : Nat} (q : Nat) {x : Nat} (d : decode μ.2.1 pc = .ok (.aload i, 2)) (h : lv[q]? = some (i, .ref x))
    (k : GG E μ Γ cells slots ws lv (pc + 2) (.ref x :: rest)) : GG E μ Γ cells slots ws lv pc (rest) := fun H locs ls hP hD hS hl => lv_aload X.1.1 X.1.2.1 d (lv_at hl q h) (k H locs ls hP hD hS hl)
theorem g_istore_n (X : CX E μ Γ) {k0 : Fin 4} {x : Int32} (d : decode μ.2.1 pc = .ok (.istore_n k0, 1)) (hn : (k0 : Nat) < μ.2.2.1) (h : ((k0 : Nat), Value.int x) :: lv.filter (fun q => !(q.1 == (k0 : Nat)) && !(q.1 + 1 == (k0 : Nat) && q.2.category == 2)) = lv')
    (k : GG E μ Γ cells slots ws lv' (pc + 1) rest) : GG E μ Γ cells slots ws lv pc (.int x :: rest) := fun H locs ls hP hD hS hl => lv_istore_n X.1.1 X.1.2.1 d rfl hl hn h (fun ls hl => k H locs ls hP hD hS hl)
theorem g_istore (X : CX E μ Γ) {i : Nat} {x : Int32} (d : decode μ.2.1 pc = .ok (.istore i, 2)) (hn : i < μ.2.2.1) (h : (i, Value.int x) :: lv.filter (fun q => !(q.1 == i) && !(q.1 + 1 == i && q.2.category == 2)) = lv')
    (k : GG E μ Γ cells slots ws lv' (pc + 2) rest) : GG E μ Γ cells slots ws lv pc (.int x :: rest) := fun H locs ls hP hD hS hl => lv_istore X.1.1 X.1.2.1 d hl hn h (fun ls hl => k H locs ls hP hD hS hl)
theorem g_astore_n (X : CX E μ Γ) {k0 : Fin 4} {x : Nat} (d : decode μ.2.1 pc = .ok (.astore_n k0, 1)) (hn : (k0 : Nat) < μ.2.2.1) (h : ((k0 : Nat), Value.ref x) :: lv.filter (fun q => !(q.1 == (k0 : Nat)) && !(q.1 + 1 == (k0 : Nat) && q.2.category == 2)) = lv')
    (k : GG E μ Γ cells slots ws lv' (pc + 1) rest) : GG E μ Γ cells slots ws lv pc (.ref x :: rest) := fun H locs ls hP hD hS hl => lv_astore_n X.1.1 X.1.2.1 d rfl hl hn h (fun ls hl => k H locs ls hP hD hS hl)
theorem g_astore (X : CX E μ Γ) {i : Nat} {x : Nat} (d : decode μ.2.1 pc = .ok (.astore i, 2)) (hn : i < μ.2.2.1) (h : (i, Value.ref x) :: lv.filter (fun q => !(q.1 == i) && !(q.1 + 1 == i && q.2.category == 2)) = lv')
    (k : GG E μ Γ cells slots ws lv' (pc + 2) rest) : GG E μ Γ cells slots ws lv pc (.ref x :: rest) := fun H locs ls hP hD hS hl => lv_astore X.1.1 X.1.2.1 d hl hn h (fun ls hl => k H locs ls hP hD hS hl)
theorem g_lstore_n (X : CX E μ Γ) {k0 : Fin 4} {x : Int64} (d : decode μ.2.1 pc = .ok (.lstore_n k0, 1)) (hn : (k0 : Nat) + 1 < μ.2.2.1) (h : ((k0 : Nat), Value.long x) :: lv.filter (fun q => !(q.1 == (k0 : Nat)) && (!(q.1 == (k0 : Nat) + 1) && !(q.1 + 1 == (k0 : Nat) && q.2.category == 2))) = lv')
    (k : GG E μ Γ cells slots ws lv' (pc + 1) rest) : GG E μ Γ cells slots ws lv pc (.long x :: rest) := fun H locs ls hP hD hS hl => lv_lstore_n X.1.1 X.1.2.1 d rfl hl hn h (fun ls hl => k H locs ls hP hD hS hl)
theorem g_lstore (X : CX E μ Γ) {i : Nat} {x : Int64} (d : decode μ.2.1 pc = .ok (.lstore i, 2)) (hn : i + 1 < μ.2.2.1) (h : (i, Value.long x) :: lv.filter (fun q => !(q.1 == i) && (!(q.1 == i + 1) && !(q.1 + 1 == i && q.2.category == 2))) = lv')
    (k : GG E μ Γ cells slots ws lv' (pc + 2) rest) : GG E μ Γ cells slots ws lv pc (.long x :: rest) := fun H locs ls hP hD hS hl => lv_lstore X.1.1 X.1.2.1 d hl hn h (fun ls hl => k H locs ls hP hD hS hl)
theorem g_iinc (X : CX E μ Γ) {i : Nat} (q : Nat) {n : Int} {x v : Int32} (d : decode μ.2.1 pc = .ok (.iinc i n, 3)) (hk : lv[q]? = some (i, .int x)) (hv : x + Int32.ofInt n = v) (hn : i < μ.2.2.1) (h : (i, Value.int v) :: lv.filter (fun q => !(q.1 == i) && !(q.1 + 1 == i && q.2.category == 2)) = lv')
    (k : GG E μ Γ cells slots ws lv' (pc + 3) rest) : GG E μ Γ cells slots ws lv pc rest := fun H locs ls hP hD hS hl => lv_iinc X.1.1 X.1.2.1 d hl hk hv hn h (fun ls hl => k H locs ls hP hD hS hl)
theorem g_iadd (X : CX E μ Γ) {x y : Int32} (d : decode μ.2.1 pc = .ok (.iadd, 1))
    (k : GG E μ Γ cells slots ws lv (pc + 1) (.int (x + y) :: rest)) : GG E μ Γ cells slots ws lv pc (.int y :: .int x :: rest) := fun H locs ls hP hD hS hl => lv_iadd X.1.1 X.1.2.1 d (k H locs ls hP hD hS hl)
theorem g_isub (X : CX E μ Γ) {x y : Int32} (d : decode μ.2.1 pc = .ok (.isub, 1))
    (k : GG E μ Γ cells slots ws lv (pc + 1) (.int (x - y) :: rest)) : GG E μ Γ cells slots ws lv pc (.int y :: .int x :: rest) := fun H locs ls hP hD hS hl => lv_isub X.1.1 X.1.2.1 d (k H locs ls hP hD hS hl)
theorem g_imul (X : CX E μ Γ) {x y : Int32} (d : decode μ.2.1 pc = .ok (.imul, 1))
    (k : GG E μ Γ cells slots ws lv (pc + 1) (.int (x * y) :: rest)) : GG E μ Γ cells slots ws lv pc (.int y :: .int x :: rest) := fun H locs ls hP hD hS hl => lv_imul X.1.1 X.1.2.1 d (k H locs ls hP hD hS hl)
theorem g_iand (X : CX E μ Γ) {x y : Int32} (d : decode μ.2.1 pc = .ok (.iand, 1))
    (k : GG E μ Γ cells slots ws lv (pc + 1) (.int (x &&& y) :: rest)) : GG E μ Γ cells slots ws lv pc (.int y :: .int x :: rest) := fun H locs ls hP hD hS hl => lv_iand X.1.1 X.1.2.1 d (k H locs ls hP hD hS hl)
theorem g_ior (X : CX E μ Γ) {x y : Int32} (d : decode μ.2.1 pc = .ok (.ior, 1))
    (k : GG E μ Γ cells slots ws lv (pc + 1) (.int (x ||| y) :: rest)) : GG E μ Γ cells slots ws lv pc (.int y :: .int x :: rest) := fun H locs ls hP hD hS hl => lv_ior X.1.1 X.1.2.1 d (k H locs ls hP hD hS hl)
theorem g_ishl (X : CX E μ Γ) {x y : Int32} (d : decode μ.2.1 pc = .ok (.ishl, 1))
    (k : GG E μ Γ cells slots ws lv (pc + 1) (.int (x <<< (y &&& 31)) :: rest)) : GG E μ Γ cells slots ws lv pc (.int y :: .int x :: rest) := fun H locs ls hP hD hS hl => lv_ishl X.1.1 X.1.2.1 d (k H locs ls hP hD hS hl)
theorem g_idiv (X : CX E μ Γ) {x y : Int32} (d : decode μ.2.1 pc = .ok (.idiv, 1)) (hne : ¬ y = 0)
    (k : GG E μ Γ cells slots ws lv (pc + 1) (.int (x / y) :: rest)) : GG E μ Γ cells slots ws lv pc (.int y :: .int x :: rest) := fun H locs ls hP hD hS hl => lv_idiv X.1.1 X.1.2.1 d hne (k H locs ls hP hD hS hl)
theorem g_irem (X : CX E μ Γ) {x y : Int32} (d : decode μ.2.1 pc = .ok (.irem, 1)) (hne : ¬ y = 0)
    (k : GG E μ Γ cells slots ws lv (pc + 1) (.int (x - x / y * y) :: rest)) : GG E μ Γ cells slots ws lv pc (.int y :: .int x :: rest) := fun H locs ls hP hD hS hl => lv_irem X.1.1 X.1.2.1 d hne (k H locs ls hP hD hS hl)
theorem g_ineg (X : CX E μ Γ) {x : Int32} (d : decode μ.2.1 pc = .ok (.ineg, 1))
    (k : GG E μ Γ cells slots ws lv (pc + 1) (.int (-x) :: rest)) : GG E μ Γ cells slots ws lv pc (.int x :: rest) := fun H locs ls hP hD hS hl => lv_ineg X.1.1 X.1.2.1 d (k H locs ls hP hD hS hl)
theorem g_ladd (X : CX E μ Γ) {x y : Int64} (d : decode μ.2.1 pc = .ok (.ladd, 1))
    (k : GG E μ Γ cells slots ws lv (pc + 1) (.long (x + y) :: rest)) : GG E μ Γ cells slots ws lv pc (.long y :: .long x :: rest) := fun H locs ls hP hD hS hl => lv_ladd X.1.1 X.1.2.1 d (k H locs ls hP hD hS hl)
theorem g_lmul (X : CX E μ Γ) {x y : Int64} (d : decode μ.2.1 pc = .ok (.lmul, 1))
    (k : GG E μ Γ cells slots ws lv (pc + 1) (.long (x * y) :: rest)) : GG E μ Γ cells slots ws lv pc (.long y :: .long x :: rest) := fun H locs ls hP hD hS hl => lv_lmul X.1.1 X.1.2.1 d (k H locs ls hP hD hS hl)
theorem g_lrem (X : CX E μ Γ) {x y : Int64} (d : decode μ.2.1 pc = .ok (.lrem, 1)) (hne : ¬ y = 0)
    (k : GG E μ Γ cells slots ws lv (pc + 1) (.long (x - x / y * y) :: rest)) : GG E μ Γ cells slots ws lv pc (.long y :: .long x :: rest) := fun H locs ls hP hD hS hl => lv_lrem X.1.1 X.1.2.1 d hne (k H locs ls hP hD hS hl)
theorem g_i2l (X : CX E μ Γ) {x : Int32} (d : decode μ.2.1 pc = .ok (.i2l, 1))
    (k : GG E μ Γ cells slots ws lv (pc + 1) (.long x.toInt64 :: rest)) : GG E μ Γ cells slots ws lv pc (.int x :: rest) := fun H locs ls hP hD hS hl => lv_i2l X.1.1 X.1.2.1 d rfl (k H locs ls hP hD hS hl)
theorem g_l2i (X : CX E μ Γ) {x : Int64} (d : decode μ.2.1 pc = .ok (.l2i, 1))
    (k : GG E μ Γ cells slots ws lv (pc + 1) (.int x.toInt32 :: rest)) : GG E μ Γ cells slots ws lv pc (.long x :: rest) := fun H locs ls hP hD hS hl => lv_l2i X.1.1 X.1.2.1 d rfl (k H locs ls hP hD hS hl)
theorem g_i2c (X : CX E μ Γ) {x : Int32} (d : decode μ.2.1 pc = .ok (.i2c, 1))
    (k : GG E μ Γ cells slots ws lv (pc + 1) (.int (x.toUInt32 % 65536).toInt32 :: rest)) : GG E μ Γ cells slots ws lv pc (.int x :: rest) := fun H locs ls hP hD hS hl => lv_i2c X.1.1 X.1.2.1 d rfl (k H locs ls hP hD hS hl)
theorem g_dup (X : CX E μ Γ) {v : Value} (d : decode μ.2.1 pc = .ok (.dup, 1)) (hv : v.category = 1)
    (k : GG E μ Γ cells slots ws lv (pc + 1) (v :: v :: rest)) : GG E μ Γ cells slots ws lv pc (v :: rest) := fun H locs ls hP hD hS hl => lv_dup X.1.1 X.1.2.1 d hv (k H locs ls hP hD hS hl)
theorem g_dup2 (X : CX E μ Γ) {v u : Value} (d : decode μ.2.1 pc = .ok (.dup2, 1)) (hv : v.category = 1) (hu : u.category = 1)
    (k : GG E μ Γ cells slots ws lv (pc + 1) (v :: u :: v :: u :: rest)) : GG E μ Γ cells slots ws lv pc (v :: u :: rest) := fun H locs ls hP hD hS hl => lv_dup2_11 X.1.1 X.1.2.1 d hv hu (k H locs ls hP hD hS hl)
theorem g_pop (X : CX E μ Γ) {v : Value} (d : decode μ.2.1 pc = .ok (.pop, 1)) (hv : v.category = 1)
    (k : GG E μ Γ cells slots ws lv (pc + 1) (rest)) : GG E μ Γ cells slots ws lv pc (v :: rest) := fun H locs ls hP hD hS hl => lv_pop X.1.1 X.1.2.1 d hv (k H locs ls hP hD hS hl)
theorem g_goto (X : CX E μ Γ) {off : Int} {tgt : Nat} (d : decode μ.2.1 pc = .ok (.goto off, 3)) (ht : (pc : Int) + off = (tgt : Int))
    (k : GG E μ Γ cells slots ws lv tgt (rest)) : GG E μ Γ cells slots ws lv pc (rest) := fun H locs ls hP hD hS hl => lv_goto X.1.1 X.1.2.1 d ht (k H locs ls hP hD hS hl)
theorem g_ldc (X : CX E μ Γ) {index : Nat} {v : Int32} (d : decode μ.2.1 pc = .ok (.ldc index, 2)) (hc : Cond.constant μ.1.cls index v ∈ TT)
    (k : GG E μ Γ cells slots ws lv (pc + 2) (.int v :: rest)) : GG E μ Γ cells slots ws lv pc rest := fun H locs ls hP hD hS hl => lv_ldc X.1.1 X.1.2.1 X.1.2.2.2.1 (X.1.2.2.2.2 _ hc) d (k H locs ls hP hD hS hl)
theorem g_ldc2 (X : CX E μ Γ) {index : Nat} {v : Int64} (d : decode μ.2.1 pc = .ok (.ldc2_w index, 3)) (hc : Cond.constantLong μ.1.cls index v ∈ TT)
    (k : GG E μ Γ cells slots ws lv (pc + 3) (.long v :: rest)) : GG E μ Γ cells slots ws lv pc rest := fun H locs ls hP hD hS hl => lv_ldc2 X.1.1 X.1.2.1 X.1.2.2.2.1 (X.1.2.2.2.2 _ hc) d (k H locs ls hP hD hS hl)
theorem g_if_eq (X : CX E μ Γ) {x : Int32} {off : Int} {tgt : Nat} (d : decode μ.2.1 pc = .ok (.ifCond .eq off, 3)) (ht : (pc : Int) + off = (tgt : Int))
    (kt : x = 0 → GG E μ Γ cells slots ws lv tgt rest) (kf : ¬ x = 0 → GG E μ Γ cells slots ws lv (pc + 3) rest) : GG E μ Γ cells slots ws lv pc (.int x :: rest) :=
  fun H locs ls hP hD hS hl => lv_if_eq X.1.1 X.1.2.1 d ht (fun h => kt h H locs ls hP hD hS hl) (fun h => kf h H locs ls hP hD hS hl)
theorem g_icmp_eq (X : CX E μ Γ) {x y : Int32} {off : Int} {tgt : Nat} (d : decode μ.2.1 pc = .ok (.if_icmp .eq off, 3)) (ht : (pc : Int) + off = (tgt : Int))
    (kt : x = y → GG E μ Γ cells slots ws lv tgt rest) (kf : ¬ x = y → GG E μ Γ cells slots ws lv (pc + 3) rest) : GG E μ Γ cells slots ws lv pc (.int y :: .int x :: rest) :=
  fun H locs ls hP hD hS hl => lv_icmp_eq X.1.1 X.1.2.1 d ht (fun h => kt h H locs ls hP hD hS hl) (fun h => kf h H locs ls hP hD hS hl)
theorem g_if_ne (X : CX E μ Γ) {x : Int32} {off : Int} {tgt : Nat} (d : decode μ.2.1 pc = .ok (.ifCond .ne off, 3)) (ht : (pc : Int) + off = (tgt : Int))
    (kt : ¬ x = 0 → GG E μ Γ cells slots ws lv tgt rest) (kf : x = 0 → GG E μ Γ cells slots ws lv (pc + 3) rest) : GG E μ Γ cells slots ws lv pc (.int x :: rest) :=
  fun H locs ls hP hD hS hl => lv_if_ne X.1.1 X.1.2.1 d ht (fun h => kt h H locs ls hP hD hS hl) (fun h => kf h H locs ls hP hD hS hl)
theorem g_icmp_ne (X : CX E μ Γ) {x y : Int32} {off : Int} {tgt : Nat} (d : decode μ.2.1 pc = .ok (.if_icmp .ne off, 3)) (ht : (pc : Int) + off = (tgt : Int))
    (kt : ¬ x = y → GG E μ Γ cells slots ws lv tgt rest) (kf : x = y → GG E μ Γ cells slots ws lv (pc + 3) rest) : GG E μ Γ cells slots ws lv pc (.int y :: .int x :: rest) :=
  fun H locs ls hP hD hS hl => lv_icmp_ne X.1.1 X.1.2.1 d ht (fun h => kt h H locs ls hP hD hS hl) (fun h => kf h H locs ls hP hD hS hl)
theorem g_if_lt (X : CX E μ Γ) {x : Int32} {off : Int} {tgt : Nat} (d : decode μ.2.1 pc = .ok (.ifCond .lt off, 3)) (ht : (pc : Int) + off = (tgt : Int))
    (kt : x < 0 → GG E μ Γ cells slots ws lv tgt rest) (kf : ¬ x < 0 → GG E μ Γ cells slots ws lv (pc + 3) rest) : GG E μ Γ cells slots ws lv pc (.int x :: rest) :=
  fun H locs ls hP hD hS hl => lv_if_lt X.1.1 X.1.2.1 d ht (fun h => kt h H locs ls hP hD hS hl) (fun h => kf h H locs ls hP hD hS hl)
theorem g_icmp_lt (X : CX E μ Γ) {x y : Int32} {off : Int} {tgt : Nat} (d : decode μ.2.1 pc = .ok (.if_icmp .lt off, 3)) (ht : (pc : Int) + off = (tgt : Int))
    (kt : x < y → GG E μ Γ cells slots ws lv tgt rest) (kf : ¬ x < y → GG E μ Γ cells slots ws lv (pc + 3) rest) : GG E μ Γ cells slots ws lv pc (.int y :: .int x :: rest) :=
  fun H locs ls hP hD hS hl => lv_icmp_lt X.1.1 X.1.2.1 d ht (fun h => kt h H locs ls hP hD hS hl) (fun h => kf h H locs ls hP hD hS hl)
theorem g_if_ge (X : CX E μ Γ) {x : Int32} {off : Int} {tgt : Nat} (d : decode μ.2.1 pc = .ok (.ifCond .ge off, 3)) (ht : (pc : Int) + off = (tgt : Int))
    (kt : 0 ≤ x → GG E μ Γ cells slots ws lv tgt rest) (kf : ¬ 0 ≤ x → GG E μ Γ cells slots ws lv (pc + 3) rest) : GG E μ Γ cells slots ws lv pc (.int x :: rest) :=
  fun H locs ls hP hD hS hl => lv_if_ge X.1.1 X.1.2.1 d ht (fun h => kt h H locs ls hP hD hS hl) (fun h => kf h H locs ls hP hD hS hl)
theorem g_icmp_ge (X : CX E μ Γ) {x y : Int32} {off : Int} {tgt : Nat} (d : decode μ.2.1 pc = .ok (.if_icmp .ge off, 3)) (ht : (pc : Int) + off = (tgt : Int))
    (kt : y ≤ x → GG E μ Γ cells slots ws lv tgt rest) (kf : ¬ y ≤ x → GG E μ Γ cells slots ws lv (pc + 3) rest) : GG E μ Γ cells slots ws lv pc (.int y :: .int x :: rest) :=
  fun H locs ls hP hD hS hl => lv_icmp_ge X.1.1 X.1.2.1 d ht (fun h => kt h H locs ls hP hD hS hl) (fun h => kf h H locs ls hP hD hS hl)
theorem g_if_gt (X : CX E μ Γ) {x : Int32} {off : Int} {tgt : Nat} (d : decode μ.2.1 pc = .ok (.ifCond .gt off, 3)) (ht : (pc : Int) + off = (tgt : Int))
    (kt : 0 < x → GG E μ Γ cells slots ws lv tgt rest) (kf : ¬ 0 < x → GG E μ Γ cells slots ws lv (pc + 3) rest) : GG E μ Γ cells slots ws lv pc (.int x :: rest) :=
  fun H locs ls hP hD hS hl => lv_if_gt X.1.1 X.1.2.1 d ht (fun h => kt h H locs ls hP hD hS hl) (fun h => kf h H locs ls hP hD hS hl)
theorem g_icmp_gt (X : CX E μ Γ) {x y : Int32} {off : Int} {tgt : Nat} (d : decode μ.2.1 pc = .ok (.if_icmp .gt off, 3)) (ht : (pc : Int) + off = (tgt : Int))
    (kt : y < x → GG E μ Γ cells slots ws lv tgt rest) (kf : ¬ y < x → GG E μ Γ cells slots ws lv (pc + 3) rest) : GG E μ Γ cells slots ws lv pc (.int y :: .int x :: rest) :=
  fun H locs ls hP hD hS hl => lv_icmp_gt X.1.1 X.1.2.1 d ht (fun h => kt h H locs ls hP hD hS hl) (fun h => kf h H locs ls hP hD hS hl)
theorem g_if_le (X : CX E μ Γ) {x : Int32} {off : Int} {tgt : Nat} (d : decode μ.2.1 pc = .ok (.ifCond .le off, 3)) (ht : (pc : Int) + off = (tgt : Int))
    (kt : x ≤ 0 → GG E μ Γ cells slots ws lv tgt rest) (kf : ¬ x ≤ 0 → GG E μ Γ cells slots ws lv (pc + 3) rest) : GG E μ Γ cells slots ws lv pc (.int x :: rest) :=
  fun H locs ls hP hD hS hl => lv_if_le X.1.1 X.1.2.1 d ht (fun h => kt h H locs ls hP hD hS hl) (fun h => kf h H locs ls hP hD hS hl)
theorem g_icmp_le (X : CX E μ Γ) {x y : Int32} {off : Int} {tgt : Nat} (d : decode μ.2.1 pc = .ok (.if_icmp .le off, 3)) (ht : (pc : Int) + off = (tgt : Int))
    (kt : x ≤ y → GG E μ Γ cells slots ws lv tgt rest) (kf : ¬ x ≤ y → GG E μ Γ cells slots ws lv (pc + 3) rest) : GG E μ Γ cells slots ws lv pc (.int y :: .int x :: rest) :=
  fun H locs ls hP hD hS hl => lv_icmp_le X.1.1 X.1.2.1 d ht (fun h => kt h H locs ls hP hD hS hl) (fun h => kf h H locs ls hP hD hS hl)
theorem g_bif_eq (X : CX E μ Γ) {b : Bool} {off : Int} {tgt : Nat} (d : decode μ.2.1 pc = .ok (.ifCond .eq off, 3)) (ht : (pc : Int) + off = (tgt : Int))
    (kt : b = false → GG E μ Γ cells slots ws lv tgt rest) (kf : b = true → GG E μ Γ cells slots ws lv (pc + 3) rest) : GG E μ Γ cells slots ws lv pc (.int (b2i b) :: rest) :=
  g_if_eq X d ht (fun h => kt (b2i_0.mp h)) (fun h => kf (by cases b; exact absurd rfl h; rfl))
theorem g_bif_ne (X : CX E μ Γ) {b : Bool} {off : Int} {tgt : Nat} (d : decode μ.2.1 pc = .ok (.ifCond .ne off, 3)) (ht : (pc : Int) + off = (tgt : Int))
    (kt : b = true → GG E μ Γ cells slots ws lv tgt rest) (kf : b = false → GG E μ Γ cells slots ws lv (pc + 3) rest) : GG E μ Γ cells slots ws lv pc (.int (b2i b) :: rest) :=
  g_if_ne X d ht (fun h => kt (by cases b; exact absurd rfl h; rfl)) (fun h => kf (b2i_0.mp h))
theorem g_getf (X : CX E μ Γ) {idx ci j : Nat} (hs : FSite μ.1.cls idx ci j) (q0 : Nat) {a : Nat} {fs : List Value} (he : ws[q0]? = some (a, .inr (ci, fs))) {v : Value} (hv : fs[j]? = some v) (d : decode μ.2.1 pc = .ok (.getfield idx, 3))
    (k : GG E μ Γ cells slots ws lv (pc + 3) (v :: rest)) : GG E μ Γ cells slots ws lv pc (.ref a :: rest) := by
  obtain ⟨C, T, N, h1, h2, h3, h4⟩ := hs
  exact fun H locs ls hP hD hS hl => va_get X.1.1 X.1.2.1 X.1.2.2.2.2 h2 X.1.2.2.2.1 X.2.1.1 hP q0 he h1 j h3 (X.1.2.2.2.2 _ h4) (fun _ h9 => h9) hv d (k H locs ls hP hD hS hl)
theorem g_putf (X : CX E μ Γ) {idx ci j : Nat} {ty : FieldType} (hs : PSite μ.1.cls idx ci j false ty) (q0 : Nat) {a : Nat} {fs : List Value} {v : Value} (he : ws[q0]? = some (a, .inr (ci, fs))) (hn : narrow ty v = v) (hf : fits ty v = true) (hl0 : j < fs.length) (hw : ws.set q0 (a, .inr (ci, fs.set j v)) = ws') (d : decode μ.2.1 pc = .ok (.putfield idx, 3))
    (k : GG E μ Γ cells slots ws' lv (pc + 3) rest) : GG E μ Γ cells slots ws lv pc (v :: .ref a :: rest) := by
  obtain ⟨C, T, N, ty0, h1, h2, h3, h4, h5, h6, h7, h8, -⟩ := hs
  subst hw
  exact fun H locs ls hP hD hS hl => va_put X.1.1 X.1.2.1 X.1.2.2.2.2 h2 ty0 h5 h6 X.1.2.2.2.1 X.2.1.1 hP hD hS q0 he h1 j h3 (X.1.2.2.2.2 _ h4) (fun _ h9 => h9) h7 (by rw [h5 j h3, h8]) hn hf hl0 d (fun H locs hP hD hS => k H locs ls hP hD hS hl)
theorem g_putF (X : CX E μ Γ) {idx ci j : Nat} {ty : FieldType} (hs : PSite μ.1.cls idx ci j true ty) (hin : μ.1.name = "<init>") (q0 : Nat) {a : Nat} {fs : List Value} {v : Value} (he : ws[q0]? = some (a, .inr (ci, fs))) (hn : narrow ty v = v) (hf : fits ty v = true) (hl0 : j < fs.length) (hw : ws.set q0 (a, .inr (ci, fs.set j v)) = ws') (d : decode μ.2.1 pc = .ok (.putfield idx, 3))
    (k : GG E μ Γ cells slots ws' lv (pc + 3) rest) : GG E μ Γ cells slots ws lv pc (v :: .ref a :: rest) := by
  obtain ⟨C, T, N, ty0, h1, h2, h3, h4, h5, h6, h7, h8, h9⟩ := hs
  subst hw
  exact fun H locs ls hP hD hS hl => va_putF X.1.1 X.1.2.1 X.1.2.2.2.2 h2 ty0 h5 h6 X.1.2.2.2.1 X.2.1.1 hP hD hS q0 he h1 j h3 (X.1.2.2.2.2 _ h4) (fun _ h9 => h9) h7 (X.2.2.2.2.2.trans hin) h9 (by rw [h5 j h3, h8]) hn hf hl0 d (fun H locs hP hD hS => k H locs ls hP hD hS hl)
theorem g_iald (X : CX E μ Γ) (q0 : Nat) {a n : Nat} {f : Nat → Int32} (ha : ws[q0]? = some (a, .inl (E.2.2 0, n, .inl f))) {i : Int32} (j : Nat) (hin : ix i j n) (d : decode μ.2.1 pc = .ok (.iaload, 1))
    (k : GG E μ Γ cells slots ws lv (pc + 1) (.int (f j) :: rest)) : GG E μ Γ cells slots ws lv pc (.int i :: .ref a :: rest) := by
  obtain ⟨h1, rfl⟩ := hin
  exact fun H locs ls hP hD hS hl => va_iald X.1.1 X.1.2.1 X.2.1.1 hP q0 0 ha rfl h1 d (k H locs ls hP hD hS hl)
theorem g_cald (X : CX E μ Γ) (q0 : Nat) {a n : Nat} {f : Nat → Int32} (ha : ws[q0]? = some (a, .inl (E.2.2 1, n, .inl f))) {i : Int32} (j : Nat) (hin : ix i j n) (d : decode μ.2.1 pc = .ok (.caload, 1))
    (k : GG E μ Γ cells slots ws lv (pc + 1) (.int (f j) :: rest)) : GG E μ Γ cells slots ws lv pc (.int i :: .ref a :: rest) := by
  obtain ⟨h1, rfl⟩ := hin
  exact fun H locs ls hP hD hS hl => va_cald X.1.1 X.1.2.1 X.2.1.1 hP q0 1 ha rfl h1 d (k H locs ls hP hD hS hl)
theorem g_iast (X : CX E μ Γ) (q0 : Nat) {a n : Nat} {f : Nat → Int32} (ha : ws[q0]? = some (a, .inl (E.2.2 0, n, .inl f))) {i x : Int32} (j : Nat) (hin : ix i j n) (hw : ws.set q0 (a, .inl (E.2.2 0, n, .inl (upd f j x))) = ws') (d : decode μ.2.1 pc = .ok (.iastore, 1))
    (k : GG E μ Γ cells slots ws' lv (pc + 1) rest) : GG E μ Γ cells slots ws lv pc (.int x :: .int i :: .ref a :: rest) := by
  obtain ⟨h1, rfl⟩ := hin
  subst hw
  exact fun H locs ls hP hD hS hl => va_iast X.1.1 X.1.2.1 X.2.1.1 hP hD hS q0 0 ha rfl h1 d (fun H locs hP hD hS => k H locs ls hP hD hS hl)
theorem g_cast (X : CX E μ Γ) (q0 : Nat) {a n : Nat} {f : Nat → Int32} (ha : ws[q0]? = some (a, .inl (E.2.2 1, n, .inl f))) {i x : Int32} (j : Nat) (hin : ix i j n) (hw : ws.set q0 (a, .inl (E.2.2 1, n, .inl (upd f j (vp_nar .char x)))) = ws') (d : decode μ.2.1 pc = .ok (.castore, 1))
    (k : GG E μ Γ cells slots ws' lv (pc + 1) rest) : GG E μ Γ cells slots ws lv pc (.int x :: .int i :: .ref a :: rest) := by
  obtain ⟨h1, rfl⟩ := hin
  subst hw
  exact fun H locs ls hP hD hS hl => va_cast X.1.1 X.1.2.1 X.2.1.1 hP hD hS q0 1 ha rfl h1 d (fun H locs hP hD hS => k H locs ls hP hD hS hl)
theorem g_alen (X : CX E μ Γ) (q0 t0 : Nat) {a : Nat} {x : vp_A} {cA : ClassId} {ty : FieldType} (ha : ws[q0]? = some (a, .inl (cA, x))) (ht : (tysA E.2.2)[t0]? = some (cA, ty)) {v : Int32} (hv : nI x.1 = v) (d : decode μ.2.1 pc = .ok (.arraylength, 1))
    (k : GG E μ Γ cells slots ws lv (pc + 1) (.int v :: rest)) : GG E μ Γ cells slots ws lv pc (.ref a :: rest) :=
  fun H locs ls hP hD hS hl => va_alen X.1.1 X.1.2.1 X.2.1.1 hP q0 t0 ha ht hv d (k H locs ls hP hD hS hl)
/-- a reference out of an array of Towns, or of rows -/
theorem g_aald (X : CX E μ Γ) (q0 : Nat) {a n : Nat} {f : Nat → Option Nat} (ha : ws[q0]? = some (a, .inl (E.2.2 3, n, .inr (.inr (.inr (.inr f)))))) {i : Int32} (j : Nat) {y : Nat} (hin : ix i j n) (hy : f j = some y) (d : decode μ.2.1 pc = .ok (.aaload, 1))
    (k : GG E μ Γ cells slots ws lv (pc + 1) (.ref y :: rest)) : GG E μ Γ cells slots ws lv pc (.int i :: .ref a :: rest) := by
  obtain ⟨h1, rfl⟩ := hin
  refine fun H locs ls hP hD hS hl => va_aldq X.1.1 X.1.2.1 X.2.1.1 hP q0 3 ha rfl h1 d ?_
  rw [hy]
  exact k H locs ls hP hD hS hl
theorem g_raald (X : CX E μ Γ) (q0 : Nat) {a n : Nat} {f : Nat → Option Nat} (ha : ws[q0]? = some (a, .inl (E.2.2 2, n, .inr (.inr (.inr (.inr f)))))) {i : Int32} (j : Nat) {y : Nat} (hin : ix i j n) (hy : f j = some y) (d : decode μ.2.1 pc = .ok (.aaload, 1))
    (k : GG E μ Γ cells slots ws lv (pc + 1) (.ref y :: rest)) : GG E μ Γ cells slots ws lv pc (.int i :: .ref a :: rest) := by
  obtain ⟨h1, rfl⟩ := hin
  intro H locs ls hP hD hS hl
  have hlt : i.toNatClampNeg < n := Nat.not_le.mp fun q => h1 (Or.inr q)
  refine W.aald (v := va_rf (f i.toNatClampNeg)) (ty := .array .int) X.1.1 X.1.2.1 (hP q0 _ ha) ((X.2.1.1.2 2 _ rfl).1 n (fun j => va_rf (f j))) rfl (fun q => by cases q) (by show ¬ (i < 0 ∨ (arrV _ _ _).slots.size ≤ _); rw [arrV_size]; exact h1) (by show (arrV _ _ _).slots[_]? = _; rw [arrV_read _ _ hlt]) rfl rfl d ?_
  rw [hy]
  exact k H locs ls hP hD hS hl
theorem g_aast (X : CX E μ Γ) (q0 qk ci : Nat) {a n y : Nat} {vs : List Value} {f : Nat → Option Nat} {r : vw_C} (ha : ws[q0]? = some (a, .inl (E.2.2 3, n, .inr (.inr (.inr (.inr f)))))) (hv : ws[qk]? = some (y, .inr (ci, vs))) (hc : vwCl[ci]? = some r) (hr : r.1 = "TwoSurveys$Towns") {i : Int32} (j : Nat) (hin : ix i j n) (hw : ws.set q0 (a, .inl (E.2.2 3, n, .inr (.inr (.inr (.inr (va_up f j (some y))))))) = ws') (d : decode μ.2.1 pc = .ok (.aastore, 1))
    (k : GG E μ Γ cells slots ws' lv (pc + 1) rest) : GG E μ Γ cells slots ws lv pc (.ref y :: .int i :: .ref a :: rest) := by
  obtain ⟨h1, rfl⟩ := hin
  subst hw
  exact fun H locs ls hP hD hS hl => va_astq X.1.1 X.1.2.1 X.2.1.1 hP hD hS q0 3 qk ci ha (by rw [hr]; rfl) hv hc h1 d (fun H locs hP hD hS => k H locs ls hP hD hS hl)
def MSite (own : String) (idx : Nat) (y : MethodName) (b : ByteArray) (n : Nat) : Prop := Cond.methodLink own idx y ∈ TT ∧ Cond.static y ∈ TT ∧ Cond.initialized "java/lang/Math" ∈ TT ∧ Cond.code y b n (some .int) ∈ TT
theorem g_max (X : CX E μ Γ) {idx : Nat} (hs : MSite μ.1.cls idx Lib.Math.max.name Lib.Math.max.code 2) {x y : Int32} (hR : 1 ≤ μ.2.2.2.2.frames ∧ (rest.map fun v => v.category).sum + 13 ≤ μ.2.2.2.2.locals ∧ cells ≤ μ.2.2.2.2.cells ∧ slots ≤ μ.2.2.2.2.slots) (d : decode μ.2.1 pc = .ok (.invokestatic idx, 3))
    (k : GG E μ Γ cells slots ws lv (pc + 3) (.int (if x < y then y else x) :: rest)) : GG E μ Γ cells slots ws lv pc (.int y :: .int x :: rest) :=
  fun H locs ls hP hD hS hl => va_mmax X.1.1 X.1.2.1 (X.1.2.2.1.trans hl.1.symm) X.1.2.2.2.1 (X.1.2.2.2.2 _ hs.1) (X.1.2.2.2.2 _ hs.2.1) (X.1.2.2.2.2 _ hs.2.2.1) (X.1.2.2.2.2 _ hs.2.2.2) hR.1 hR.2.1 hR.2.2.1 hR.2.2.2 d (k H locs ls hP hD hS hl)
theorem g_min (X : CX E μ Γ) {idx : Nat} (hs : MSite μ.1.cls idx Lib.Math.min.name Lib.Math.min.code 2) {x y : Int32} (hR : 1 ≤ μ.2.2.2.2.frames ∧ (rest.map fun v => v.category).sum + 13 ≤ μ.2.2.2.2.locals ∧ cells ≤ μ.2.2.2.2.cells ∧ slots ≤ μ.2.2.2.2.slots) (d : decode μ.2.1 pc = .ok (.invokestatic idx, 3))
    (k : GG E μ Γ cells slots ws lv (pc + 3) (.int (if y < x then y else x) :: rest)) : GG E μ Γ cells slots ws lv pc (.int y :: .int x :: rest) :=
  fun H locs ls hP hD hS hl => va_mmin X.1.1 X.1.2.1 (X.1.2.2.1.trans hl.1.symm) X.1.2.2.2.1 (X.1.2.2.2.2 _ hs.1) (X.1.2.2.2.2 _ hs.2.1) (X.1.2.2.2.2 _ hs.2.2.1) (X.1.2.2.2.2 _ hs.2.2.2) hR.1 hR.2.1 hR.2.2.1 hR.2.2.2 d (k H locs ls hP hD hS hl)
theorem g_abs (X : CX E μ Γ) {idx : Nat} (hs : MSite μ.1.cls idx Lib.Math.abs.name Lib.Math.abs.code 1) {x : Int32} (hR : 1 ≤ μ.2.2.2.2.frames ∧ (rest.map fun v => v.category).sum + 13 ≤ μ.2.2.2.2.locals ∧ cells ≤ μ.2.2.2.2.cells ∧ slots ≤ μ.2.2.2.2.slots) (d : decode μ.2.1 pc = .ok (.invokestatic idx, 3))
    (k : GG E μ Γ cells slots ws lv (pc + 3) (.int (if 0 ≤ x then x else 0 - x) :: rest)) : GG E μ Γ cells slots ws lv pc (.int x :: rest) :=
  fun H locs ls hP hD hS hl => va_mabs X.1.1 X.1.2.1 (X.1.2.2.1.trans hl.1.symm) X.1.2.2.2.1 (X.1.2.2.2.2 _ hs.1) (X.1.2.2.2.2 _ hs.2.1) (X.1.2.2.2.2 _ hs.2.2.1) (X.1.2.2.2.2 _ hs.2.2.2) hR.1 hR.2.1 hR.2.2.1 hR.2.2.2 d (k H locs ls hP hD hS hl)
def ASite (own : String) (idx : Nat) : Prop := Cond.methodLink own idx arraycopyName ∈ TT ∧ Cond.native arraycopyName ∈ TT ∧ Cond.static arraycopyName ∈ TT ∧ Cond.initialized "java/lang/System" ∈ TT
/-- a row of ints copied whole, from place 0 to place 0 -/
theorem g_copy (X : CX E μ Γ) {idx : Nat} (hs : ASite μ.1.cls idx) (q0 q1 : Nat) {a0 a n : Nat} {f g : Nat → Int32} (ha0 : ws[q0]? = some (a0, .inl (E.2.2 0, n, .inl f))) (ha1 : ws[q1]? = some (a, .inl (E.2.2 0, n, .inl g))) {x : Int32} (hx : ix x n (n + 1)) (hw : ws.set q1 (a, .inl (E.2.2 0, n, .inl (va_cpy f g 0 0 n))) = ws')
    (hR : 1 ≤ μ.2.2.2.2.frames ∧ (rest.map fun v => v.category).sum + (nativeFrameWords "java/lang/System" "arraycopy" 5 + 11) ≤ μ.2.2.2.2.locals) (d : decode μ.2.1 pc = .ok (.invokestatic idx, 3))
    (k : GG E μ Γ cells slots ws' lv (pc + 3) rest) : GG E μ Γ cells slots ws lv pc (.int x :: .int 0 :: .ref a :: .int 0 :: .ref a0 :: rest) := by
  subst hw
  obtain ⟨hx1, hx2⟩ := hx
  refine fun H locs ls hP hD hS hl => va_copyi (sp := 0) (dp := 0) (n := x) X.1.1 X.1.2.1 (X.1.2.2.1.trans hl.1.symm) X.1.2.2.2.1 (X.1.2.2.2.2 _ hs.1) (X.1.2.2.2.2 _ hs.2.1) (X.1.2.2.2.2 _ hs.2.2.1) (X.1.2.2.2.2 _ hs.2.2.2) X.2.1.1 hP hD hS q0 q1 0 0 ha0 ha1 rfl rfl rfl (by decide) (by decide) (fun q => hx1 (Or.inl q)) (by rw [hx2]; exact Nat.le_of_eq (Nat.zero_add n)) (by rw [hx2]; exact Nat.le_of_eq (Nat.zero_add n)) (fun _ _ => rfl) hR.1 hR.2 d (fun H locs hP hD hS => ?_)
  rw [hx2] at hP hD
  exact k H locs ls hP hD hS hl
theorem rmOK_sp {ν μ : MD} (h : rmOK ν μ = true) : ν.2.2.2.2.cells = 0 ∧ ν.2.2.2.2.slots = 0 ∧ ν.2.2.2.2.frames + 1 ≤ μ.2.2.2.2.frames ∧ 8 + (ν.2.2.1 + 11) + ν.2.2.2.2.locals ≤ μ.2.2.2.2.locals := by
  simpa [rmOK, Bool.and_eq_true, and_assoc] using h
theorem g_callV (X : CX E μ Γ) {ν : MD} {b : Nat} {As : List Value} {wc wc' : va_W} {v : Option Value} {idx n ci q0 : Nat} {fs : List Value} {st : List Value} (hM : CT E ν (.ref b :: As) wc v wc') (hs : VSite μ.1.cls idx ν n) (hR : rmOK ν μ = true) (isC : List Nat) (hnd : va_nd isC = true) (hC : isC.map (fun i => ws[i]?) = wc.map some) (ha : wc'.map Prod.fst = wc.map Prod.fst) (hw : va_rep ws isC wc' = ws')
    (hrecv : wc[q0]? = some (b, .inr (ci, fs))) (hcl : (vwCl[ci]?).map Prod.fst = some ν.1.cls) (hst : st = As.reverse ++ .ref b :: rest) (hn : As.length = n) (hcat : (rest.map fun v => v.category).sum ≤ 8) (d : decode μ.2.1 pc = .ok (.invokevirtual idx, 3))
    (k : GG E μ Γ cells slots ws' lv (pc + 3) (v.toList ++ rest)) (hcs : cells ≤ μ.2.2.2.2.cells ∧ slots ≤ μ.2.2.2.2.slots := by exact ⟨Nat.zero_le _, Nat.zero_le _⟩) : GG E μ Γ cells slots ws lv pc st := by
  subst hw
  obtain ⟨hR1, hR2, hR3, hR4⟩ := rmOK_sp hR
  intro H locs ls hP hD hS hl
  have hPc : va_P E.2.1 vwCl wc H := fun k q hk => by
    obtain ⟨i, -, h2⟩ := va_places hC hk
    exact hP i q h2
  have hDc := hD.sub isC hnd hC
  have hFc := va_free hD hS X.2.2.1 isC hC
  obtain ⟨q, hq1, hq2⟩ := Option.map_eq_some_iff.mp hcl
  refine run_go (va_runV ⟨X.1.1, X.1.2.1, X.1.2.2.1, X.1.2.2.2.1, X.1.2.2.2.2⟩ (hM H.size) (cwV n X.1.2.2.2.2 hs.1 rfl hR1 hR2 hs.2 ⟨hR3, hR4⟩) ⟨CTp.blind, by rw [← hq2]; exact va_recv X.2.1.1 hPc hq1 hrecv, fun U hU hW => ⟨rfl, by rw [hU], by rw [hU]; exact hPc, EV.warm hW X.2.1, hDc.weaken (fun _ _ _ _ => trivial)⟩⟩ rfl hn hl.1 hst (lv_room hcat) d (by exact hcs)) hS (fun q _ h => hFc q h) hFc (fun H1 locs1 hP1 hz hk hS1 => ?_)
  obtain ⟨hP', hD'⟩ := va_rep_P hP hD isC hC ha hk hP1
  exact k H1 locs1 ls hP' hD' hS1 hl
theorem g_callS (X : CX E μ Γ) {ν : MD} {As : List Value} {wc wc' : va_W} {v : Option Value} {idx n : Nat} {st : List Value} (hM : CT E ν As wc v wc') (hs : SSite μ.1.cls idx ν n) (hR : rmOK ν μ = true) (isC : List Nat) (hnd : va_nd isC = true) (hC : isC.map (fun i => ws[i]?) = wc.map some) (ha : wc'.map Prod.fst = wc.map Prod.fst) (hw : va_rep ws isC wc' = ws')
    (hst : st = As.reverse ++ rest) (hn : As.length = n) (hcat : (rest.map fun v => v.category).sum ≤ 8) (d : decode μ.2.1 pc = .ok (.invokestatic idx, 3))
    (k : GG E μ Γ cells slots ws' lv (pc + 3) (v.toList ++ rest)) (hcs : cells ≤ μ.2.2.2.2.cells ∧ slots ≤ μ.2.2.2.2.slots := by exact ⟨Nat.zero_le _, Nat.zero_le _⟩) : GG E μ Γ cells slots ws lv pc st := by
  subst hw
  obtain ⟨hR1, hR2, hR3, hR4⟩ := rmOK_sp hR
  intro H locs ls hP hD hS hl
  have hPc : va_P E.2.1 vwCl wc H := fun k q hk => by
    obtain ⟨i, -, h2⟩ := va_places hC hk
    exact hP i q h2
  have hDc := hD.sub isC hnd hC
  have hFc := va_free hD hS X.2.2.1 isC hC
  refine run_go (va_runS ⟨X.1.1, X.1.2.1, X.1.2.2.1, X.1.2.2.2.1, X.1.2.2.2.2⟩ (hM H.size) (cwS n X.1.2.2.2.2 hs.1 rfl hR1 hR2 hs.2 ⟨hR3, hR4⟩) ⟨CTp.blind, fun U hU hW => ⟨rfl, by rw [hU], by rw [hU]; exact hPc, EV.warm hW X.2.1, hDc.weaken (fun _ _ _ _ => trivial)⟩⟩ rfl hn hl.1 hst (lv_room hcat) d (by exact hcs)) hS (fun q _ h => hFc q h) hFc (fun H1 locs1 hP1 hz hk hS1 => ?_)
  obtain ⟨hP', hD'⟩ := va_rep_P hP hD isC hC ha hk hP1
  exact k H1 locs1 ls hP' hD' hS1 hl
/-- a static method of a nest mate, of no cell -/
theorem g_callN (X : CX E μ Γ) {ν : MD} {As : List Value} {v : Option Value} {idx n : Nat} {host : String} {st : List Value} (hM : CT E ν As [] v []) (hs : NSite μ.1.cls idx ν host n) (hR : rmOK ν μ = true)
    (hst : st = As.reverse ++ rest) (hn : As.length = n) (hcat : (rest.map fun v => v.category).sum ≤ 8) (d : decode μ.2.1 pc = .ok (.invokestatic idx, 3))
    (k : GG E μ Γ cells slots ws lv (pc + 3) (v.toList ++ rest)) (hcs : cells ≤ μ.2.2.2.2.cells ∧ slots ≤ μ.2.2.2.2.slots := by exact ⟨Nat.zero_le _, Nat.zero_le _⟩) : GG E μ Γ cells slots ws lv pc st := by
  obtain ⟨hR1, hR2, hR3, hR4⟩ := rmOK_sp hR
  intro H locs ls hP hD hS hl
  have hPc : va_P E.2.1 vwCl [] H := fun k q hk => by simp at hk
  have hFc : ∀ q, va_A [] H.size q → Γ.2.2.2.2.2.2.2.2.1 q := va_free hD hS X.2.2.1 [] rfl
  obtain ⟨s1, s2, s3, s4, s5⟩ := hs
  refine run_go (va_runSN ⟨X.1.1, X.1.2.1, X.1.2.2.1, X.1.2.2.2.1, X.1.2.2.2.2⟩ (hM H.size) ⟨va_cnB n X.1.2.2.2.2 s1 rfl hR1 hR2 (X.2.1.2 _ s2) (X.1.2.2.2.2 _ s4) s5 ⟨hR3, hR4⟩, X.1.2.2.2.2 _ s3, trivial⟩ ⟨CTp.blind, fun U hU hW => ⟨rfl, by rw [hU], by rw [hU]; exact hPc, EV.warm hW X.2.1, va_D.sub hD [] rfl rfl |>.weaken (fun _ _ _ _ => trivial)⟩⟩ rfl hn hl.1 hst (lv_room hcat) d (by exact hcs)) hS (fun q _ h => hFc q h) hFc (fun H1 locs1 hP1 hz hk hS1 => ?_)
  obtain ⟨hP', hD'⟩ := va_rep_P (w1 := []) hP hD [] rfl rfl hk hP1
  exact k H1 locs1 ls hP' hD' hS1 hl
theorem g_iret (X : CX E μ Γ) {v : Option Value} {w' : va_W} (hx : RX E μ Γ v w') {r : Int32} (hr : μ.2.2.2.1 = some .int) (hv : v = some (.int r)) (hw : w' = ws) (d : decode μ.2.1 pc = .ok (.ireturn, 1)) : GG E μ Γ 0 0 ws lv pc [.int r] := by
  intro H locs ls hP hD hS hl
  rw [hx]
  exact W.iret X.1.1 X.1.2.1 (X.2.2.2.1.trans hr) (fun t ht hW => ⟨⟨by rw [hv], by rw [ht, hw]; exact hP⟩, hS.F ht⟩) hS.2.2 d X.2.2.2.2.1
theorem g_zret (X : CX E μ Γ) {v : Option Value} {w' : va_W} (hx : RX E μ Γ v w') {r : Int32} (b : Bool) (hb : r = b2i b) (hr : μ.2.2.2.1 = some .boolean) (hv : v = some (.int (b2i b))) (hw : w' = ws) (d : decode μ.2.1 pc = .ok (.ireturn, 1)) : GG E μ Γ 0 0 ws lv pc [.int r] := by
  subst hb
  intro H locs ls hP hD hS hl
  rw [hx]
  exact W.zret X.1.1 X.1.2.1 (X.2.2.2.1.trans hr) (by cases b <;> rfl) (fun t ht hW => ⟨⟨by rw [hv], by rw [ht, hw]; exact hP⟩, hS.F ht⟩) hS.2.2 d X.2.2.2.2.1
theorem g_vret (X : CX E μ Γ) {v : Option Value} {w' : va_W} (hx : RX E μ Γ v w') (hr : μ.2.2.2.1 = none) (hv : v = none) (hw : w' = ws) (d : decode μ.2.1 pc = .ok (.return_, 1)) : GG E μ Γ 0 0 ws lv pc [] := by
  intro H locs ls hP hD hS hl
  rw [hx]
  exact W.vret X.1.1 X.1.2.1 (X.2.2.2.1.trans hr) (fun t ht hW => ⟨⟨by rw [hv], by rw [ht, hw]; exact hP⟩, hS.F ht⟩) hS.2.2 d X.2.2.2.2.1
theorem g_aret (X : CX E μ Γ) {v : Option Value} {w' : va_W} (hx : RX E μ Γ v w') {y : Nat} {C : String} (hr : μ.2.2.2.1 = some (.object C)) (hv : v = some (.ref y)) (hw : w' = ws) (d : decode μ.2.1 pc = .ok (.areturn, 1)) : GG E μ Γ 0 0 ws lv pc [.ref y] := by
  intro H locs ls hP hD hS hl
  rw [hx]
  exact W.aret X.1.1 X.1.2.1 (X.2.2.2.1.trans hr) (Or.inl ⟨_, rfl⟩) (Or.inr ⟨_, rfl⟩) (fun t ht hW => ⟨⟨by rw [hv], by rw [ht, hw]; exact hP⟩, hS.F ht⟩) hS.2.2 d X.2.2.2.2.1
end GGI
end
