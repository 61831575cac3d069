-- ===== PART A: goes FIRST, ahead of the names: the tables' words, and 'selects' of the private methods out of them =====
/-- a private method of a class that the tables say can be made, by its rows of tables_1 -/
def lw_okq (q : MethodName × Nat) : Prop := (q.1.cls ≠ "java/lang/invoke/MethodHandle" ∧ q.1.cls ≠ "java/lang/invoke/VarHandle") ∧ Cond.instantiable q.1.cls q.2 ∈ tables_1 ∧ Cond.privateMethod q.1 ∈ tables_1 ∧ Cond.instanceMethod q.1 ∈ tables_1
theorem lw_p0 : lw_okq (⟨"OstlerHours$Parser", "takeClause", "()Z"⟩, 3) := ⟨⟨by decide +kernel, by decide +kernel⟩, List.mem_of_getElem? (i := 110) (by decide +kernel), List.mem_of_getElem? (i := 346) (by decide +kernel), List.mem_of_getElem? (i := 347) (by decide +kernel)⟩
theorem lw_p1 : lw_okq (⟨"OstlerHours$Parser", "wordNumber", "()I"⟩, 3) := ⟨⟨by decide +kernel, by decide +kernel⟩, List.mem_of_getElem? (i := 110) (by decide +kernel), List.mem_of_getElem? (i := 350) (by decide +kernel), List.mem_of_getElem? (i := 351) (by decide +kernel)⟩
theorem lw_p2 : lw_okq (⟨"OstlerHours$Parser", "isOneTooMany", "(I)Z"⟩, 3) := ⟨⟨by decide +kernel, by decide +kernel⟩, List.mem_of_getElem? (i := 110) (by decide +kernel), List.mem_of_getElem? (i := 414) (by decide +kernel), List.mem_of_getElem? (i := 415) (by decide +kernel)⟩
theorem lw_p3 : lw_okq (⟨"OstlerHours$Parser", "takeInn", "()Z"⟩, 3) := ⟨⟨by decide +kernel, by decide +kernel⟩, List.mem_of_getElem? (i := 110) (by decide +kernel), List.mem_of_getElem? (i := 423) (by decide +kernel), List.mem_of_getElem? (i := 424) (by decide +kernel)⟩
theorem lw_p4 : lw_okq (⟨"OstlerHours$Parser", "takeNumber", "(II)I"⟩, 3) := ⟨⟨by decide +kernel, by decide +kernel⟩, List.mem_of_getElem? (i := 110) (by decide +kernel), List.mem_of_getElem? (i := 427) (by decide +kernel), List.mem_of_getElem? (i := 428) (by decide +kernel)⟩
theorem lw_p5 : lw_okq (⟨"OstlerHours$Parser", "takeRider", "()Z"⟩, 3) := ⟨⟨by decide +kernel, by decide +kernel⟩, List.mem_of_getElem? (i := 110) (by decide +kernel), List.mem_of_getElem? (i := 439) (by decide +kernel), List.mem_of_getElem? (i := 440) (by decide +kernel)⟩
theorem lw_p6 : lw_okq (⟨"OstlerHours$Parser", "takeHour", "(I)Z"⟩, 3) := ⟨⟨by decide +kernel, by decide +kernel⟩, List.mem_of_getElem? (i := 110) (by decide +kernel), List.mem_of_getElem? (i := 447) (by decide +kernel), List.mem_of_getElem? (i := 448) (by decide +kernel)⟩
theorem lw_p7 : lw_okq (⟨"OstlerHours", "beginDay", "()V"⟩, 11) := ⟨⟨by decide +kernel, by decide +kernel⟩, List.mem_of_getElem? (i := 22) (by decide +kernel), List.mem_of_getElem? (i := 465) (by decide +kernel), List.mem_of_getElem? (i := 466) (by decide +kernel)⟩
theorem lw_p8 : lw_okq (⟨"OstlerHours$Day", "sendOff", "(II)I"⟩, 9) := ⟨⟨by decide +kernel, by decide +kernel⟩, List.mem_of_getElem? (i := 130) (by decide +kernel), List.mem_of_getElem? (i := 551) (by decide +kernel), List.mem_of_getElem? (i := 552) (by decide +kernel)⟩
theorem lw_p9 : lw_okq (⟨"OstlerHours$Day", "tire", "(II)V"⟩, 9) := ⟨⟨by decide +kernel, by decide +kernel⟩, List.mem_of_getElem? (i := 130) (by decide +kernel), List.mem_of_getElem? (i := 565) (by decide +kernel), List.mem_of_getElem? (i := 566) (by decide +kernel)⟩
theorem lw_p10 : lw_okq (⟨"OstlerHours$Day", "leadHome", "(II)I"⟩, 9) := ⟨⟨by decide +kernel, by decide +kernel⟩, List.mem_of_getElem? (i := 130) (by decide +kernel), List.mem_of_getElem? (i := 587) (by decide +kernel), List.mem_of_getElem? (i := 588) (by decide +kernel)⟩
theorem lw_p11 : lw_okq (⟨"OstlerHours$Day", "rest", "(I)V"⟩, 9) := ⟨⟨by decide +kernel, by decide +kernel⟩, List.mem_of_getElem? (i := 130) (by decide +kernel), List.mem_of_getElem? (i := 591) (by decide +kernel), List.mem_of_getElem? (i := 592) (by decide +kernel)⟩
theorem lw_p12 : lw_okq (⟨"OstlerHours$Day", "healIfRested", "(I)V"⟩, 9) := ⟨⟨by decide +kernel, by decide +kernel⟩, List.mem_of_getElem? (i := 130) (by decide +kernel), List.mem_of_getElem? (i := 600) (by decide +kernel), List.mem_of_getElem? (i := 601) (by decide +kernel)⟩
theorem lw_p13 : lw_okq (⟨"OstlerHours$Pairing", "accept", "(I)V"⟩, 4) := ⟨⟨by decide +kernel, by decide +kernel⟩, List.mem_of_getElem? (i := 197) (by decide +kernel), List.mem_of_getElem? (i := 675) (by decide +kernel), List.mem_of_getElem? (i := 676) (by decide +kernel)⟩
theorem lw_p14 : lw_okq (⟨"OstlerHours$Day", "leastTaken", "(II)I"⟩, 9) := ⟨⟨by decide +kernel, by decide +kernel⟩, List.mem_of_getElem? (i := 130) (by decide +kernel), List.mem_of_getElem? (i := 692) (by decide +kernel), List.mem_of_getElem? (i := 693) (by decide +kernel)⟩
theorem lw_p15 : lw_okq (⟨"OstlerHours", "comesFed", "(III)Z"⟩, 11) := ⟨⟨by decide +kernel, by decide +kernel⟩, List.mem_of_getElem? (i := 22) (by decide +kernel), List.mem_of_getElem? (i := 711) (by decide +kernel), List.mem_of_getElem? (i := 712) (by decide +kernel)⟩
def lw_privs_1 : List (MethodName × Nat) := [(⟨"OstlerHours$Parser", "takeClause", "()Z"⟩, 3), (⟨"OstlerHours$Parser", "wordNumber", "()I"⟩, 3), (⟨"OstlerHours$Parser", "isOneTooMany", "(I)Z"⟩, 3), (⟨"OstlerHours$Parser", "takeInn", "()Z"⟩, 3), (⟨"OstlerHours$Parser", "takeNumber", "(II)I"⟩, 3), (⟨"OstlerHours$Parser", "takeRider", "()Z"⟩, 3), (⟨"OstlerHours$Parser", "takeHour", "(I)Z"⟩, 3), (⟨"OstlerHours", "beginDay", "()V"⟩, 11), (⟨"OstlerHours$Day", "sendOff", "(II)I"⟩, 9), (⟨"OstlerHours$Day", "tire", "(II)V"⟩, 9), (⟨"OstlerHours$Day", "leadHome", "(II)I"⟩, 9), (⟨"OstlerHours$Day", "rest", "(I)V"⟩, 9), (⟨"OstlerHours$Day", "healIfRested", "(I)V"⟩, 9), (⟨"OstlerHours$Pairing", "accept", "(I)V"⟩, 4), (⟨"OstlerHours$Day", "leastTaken", "(II)I"⟩, 9), (⟨"OstlerHours", "comesFed", "(III)Z"⟩, 11)]
theorem lw_r1 : ∀ q ∈ lw_privs_1, lw_okq q := List.forall_mem_cons.mpr ⟨lw_p0, List.forall_mem_cons.mpr ⟨lw_p1, List.forall_mem_cons.mpr ⟨lw_p2, List.forall_mem_cons.mpr ⟨lw_p3, List.forall_mem_cons.mpr ⟨lw_p4, List.forall_mem_cons.mpr ⟨lw_p5, List.forall_mem_cons.mpr ⟨lw_p6, List.forall_mem_cons.mpr ⟨lw_p7, List.forall_mem_cons.mpr ⟨lw_p8, List.forall_mem_cons.mpr ⟨lw_p9, List.forall_mem_cons.mpr ⟨lw_p10, List.forall_mem_cons.mpr ⟨lw_p11, List.forall_mem_cons.mpr ⟨lw_p12, List.forall_mem_cons.mpr ⟨lw_p13, List.forall_mem_cons.mpr ⟨lw_p14, List.forall_mem_cons.mpr ⟨lw_p15, fun _ h => absurd h List.not_mem_nil⟩⟩⟩⟩⟩⟩⟩⟩⟩⟩⟩⟩⟩⟩⟩⟩
theorem lw_p16 : lw_okq (⟨"OstlerHours$Sightings", "fits", "(I)Z"⟩, 4) := ⟨⟨by decide +kernel, by decide +kernel⟩, List.mem_of_getElem? (i := 220) (by decide +kernel), List.mem_of_getElem? (i := 750) (by decide +kernel), List.mem_of_getElem? (i := 751) (by decide +kernel)⟩
theorem lw_p17 : lw_okq (⟨"OstlerHours$Shelf", "toldByAll", "(I)I"⟩, 1) := ⟨⟨by decide +kernel, by decide +kernel⟩, List.mem_of_getElem? (i := 240) (by decide +kernel), List.mem_of_getElem? (i := 811) (by decide +kernel), List.mem_of_getElem? (i := 812) (by decide +kernel)⟩
theorem lw_p18 : lw_okq (⟨"OstlerHours$Shelf", "withoutMissing", "(I)I"⟩, 1) := ⟨⟨by decide +kernel, by decide +kernel⟩, List.mem_of_getElem? (i := 240) (by decide +kernel), List.mem_of_getElem? (i := 819) (by decide +kernel), List.mem_of_getElem? (i := 820) (by decide +kernel)⟩
theorem lw_p19 : lw_okq (⟨"OstlerHoursModel", "reads", "(Z)Z"⟩, 34) := ⟨⟨by decide +kernel, by decide +kernel⟩, List.mem_of_getElem? (i := 867) (by decide +kernel), List.mem_of_getElem? (i := 992) (by decide +kernel), List.mem_of_getElem? (i := 993) (by decide +kernel)⟩
theorem lw_p20 : lw_okq (⟨"OstlerHoursModel", "nextToken", "()V"⟩, 34) := ⟨⟨by decide +kernel, by decide +kernel⟩, List.mem_of_getElem? (i := 867) (by decide +kernel), List.mem_of_getElem? (i := 996) (by decide +kernel), List.mem_of_getElem? (i := 997) (by decide +kernel)⟩
theorem lw_p21 : lw_okq (⟨"OstlerHoursModel", "readsClause", "()Z"⟩, 34) := ⟨⟨by decide +kernel, by decide +kernel⟩, List.mem_of_getElem? (i := 867) (by decide +kernel), List.mem_of_getElem? (i := 1010) (by decide +kernel), List.mem_of_getElem? (i := 1011) (by decide +kernel)⟩
theorem lw_p22 : lw_okq (⟨"OstlerHoursModel", "kindHere", "()I"⟩, 34) := ⟨⟨by decide +kernel, by decide +kernel⟩, List.mem_of_getElem? (i := 867) (by decide +kernel), List.mem_of_getElem? (i := 1014) (by decide +kernel), List.mem_of_getElem? (i := 1015) (by decide +kernel)⟩
theorem lw_p23 : lw_okq (⟨"OstlerHoursModel", "isWord", "([I)Z"⟩, 34) := ⟨⟨by decide +kernel, by decide +kernel⟩, List.mem_of_getElem? (i := 867) (by decide +kernel), List.mem_of_getElem? (i := 1018) (by decide +kernel), List.mem_of_getElem? (i := 1019) (by decide +kernel)⟩
theorem lw_p24 : lw_okq (⟨"OstlerHoursModel", "readsHour", "(I)Z"⟩, 34) := ⟨⟨by decide +kernel, by decide +kernel⟩, List.mem_of_getElem? (i := 867) (by decide +kernel), List.mem_of_getElem? (i := 1022) (by decide +kernel), List.mem_of_getElem? (i := 1023) (by decide +kernel)⟩
theorem lw_p25 : lw_okq (⟨"OstlerHoursModel", "number", "(III)Z"⟩, 34) := ⟨⟨by decide +kernel, by decide +kernel⟩, List.mem_of_getElem? (i := 867) (by decide +kernel), List.mem_of_getElem? (i := 1026) (by decide +kernel), List.mem_of_getElem? (i := 1027) (by decide +kernel)⟩
theorem lw_p26 : lw_okq (⟨"OstlerHoursModel", "readsRoad", "()Z"⟩, 34) := ⟨⟨by decide +kernel, by decide +kernel⟩, List.mem_of_getElem? (i := 867) (by decide +kernel), List.mem_of_getElem? (i := 1030) (by decide +kernel), List.mem_of_getElem? (i := 1031) (by decide +kernel)⟩
theorem lw_p27 : lw_okq (⟨"OstlerHoursModel", "readsInn", "()Z"⟩, 34) := ⟨⟨by decide +kernel, by decide +kernel⟩, List.mem_of_getElem? (i := 867) (by decide +kernel), List.mem_of_getElem? (i := 1034) (by decide +kernel), List.mem_of_getElem? (i := 1035) (by decide +kernel)⟩
theorem lw_p28 : lw_okq (⟨"OstlerHoursModel", "readsRider", "()Z"⟩, 34) := ⟨⟨by decide +kernel, by decide +kernel⟩, List.mem_of_getElem? (i := 867) (by decide +kernel), List.mem_of_getElem? (i := 1038) (by decide +kernel), List.mem_of_getElem? (i := 1039) (by decide +kernel)⟩
theorem lw_p29 : lw_okq (⟨"OstlerHoursModel", "copyRoad", "(II)V"⟩, 34) := ⟨⟨by decide +kernel, by decide +kernel⟩, List.mem_of_getElem? (i := 867) (by decide +kernel), List.mem_of_getElem? (i := 1046) (by decide +kernel), List.mem_of_getElem? (i := 1047) (by decide +kernel)⟩
theorem lw_p30 : lw_okq (⟨"OstlerHoursModel", "isHour", "(I)Z"⟩, 34) := ⟨⟨by decide +kernel, by decide +kernel⟩, List.mem_of_getElem? (i := 867) (by decide +kernel), List.mem_of_getElem? (i := 1054) (by decide +kernel), List.mem_of_getElem? (i := 1055) (by decide +kernel)⟩
theorem lw_p31 : lw_okq (⟨"OstlerHoursModel", "isRider", "(I)Z"⟩, 34) := ⟨⟨by decide +kernel, by decide +kernel⟩, List.mem_of_getElem? (i := 867) (by decide +kernel), List.mem_of_getElem? (i := 1062) (by decide +kernel), List.mem_of_getElem? (i := 1063) (by decide +kernel)⟩
def lw_privs_2 : List (MethodName × Nat) := [(⟨"OstlerHours$Sightings", "fits", "(I)Z"⟩, 4), (⟨"OstlerHours$Shelf", "toldByAll", "(I)I"⟩, 1), (⟨"OstlerHours$Shelf", "withoutMissing", "(I)I"⟩, 1), (⟨"OstlerHoursModel", "reads", "(Z)Z"⟩, 34), (⟨"OstlerHoursModel", "nextToken", "()V"⟩, 34), (⟨"OstlerHoursModel", "readsClause", "()Z"⟩, 34), (⟨"OstlerHoursModel", "kindHere", "()I"⟩, 34), (⟨"OstlerHoursModel", "isWord", "([I)Z"⟩, 34), (⟨"OstlerHoursModel", "readsHour", "(I)Z"⟩, 34), (⟨"OstlerHoursModel", "number", "(III)Z"⟩, 34), (⟨"OstlerHoursModel", "readsRoad", "()Z"⟩, 34), (⟨"OstlerHoursModel", "readsInn", "()Z"⟩, 34), (⟨"OstlerHoursModel", "readsRider", "()Z"⟩, 34), (⟨"OstlerHoursModel", "copyRoad", "(II)V"⟩, 34), (⟨"OstlerHoursModel", "isHour", "(I)Z"⟩, 34), (⟨"OstlerHoursModel", "isRider", "(I)Z"⟩, 34)]
theorem lw_r2 : ∀ q ∈ lw_privs_2, lw_okq q := List.forall_mem_cons.mpr ⟨lw_p16, List.forall_mem_cons.mpr ⟨lw_p17, List.forall_mem_cons.mpr ⟨lw_p18, List.forall_mem_cons.mpr ⟨lw_p19, List.forall_mem_cons.mpr ⟨lw_p20, List.forall_mem_cons.mpr ⟨lw_p21, List.forall_mem_cons.mpr ⟨lw_p22, List.forall_mem_cons.mpr ⟨lw_p23, List.forall_mem_cons.mpr ⟨lw_p24, List.forall_mem_cons.mpr ⟨lw_p25, List.forall_mem_cons.mpr ⟨lw_p26, List.forall_mem_cons.mpr ⟨lw_p27, List.forall_mem_cons.mpr ⟨lw_p28, List.forall_mem_cons.mpr ⟨lw_p29, List.forall_mem_cons.mpr ⟨lw_p30, List.forall_mem_cons.mpr ⟨lw_p31, fun _ h => absurd h List.not_mem_nil⟩⟩⟩⟩⟩⟩⟩⟩⟩⟩⟩⟩⟩⟩⟩⟩
theorem lw_p32 : lw_okq (⟨"OstlerHoursModel", "isInn", "(I)Z"⟩, 34) := ⟨⟨by decide +kernel, by decide +kernel⟩, List.mem_of_getElem? (i := 867) (by decide +kernel), List.mem_of_getElem? (i := 1070) (by decide +kernel), List.mem_of_getElem? (i := 1071) (by decide +kernel)⟩
theorem lw_p33 : lw_okq (⟨"OstlerHoursModel", "keepPast", "()V"⟩, 34) := ⟨⟨by decide +kernel, by decide +kernel⟩, List.mem_of_getElem? (i := 867) (by decide +kernel), List.mem_of_getElem? (i := 1087) (by decide +kernel), List.mem_of_getElem? (i := 1088) (by decide +kernel)⟩
theorem lw_p34 : lw_okq (⟨"OstlerHoursModel", "passes", "(I)V"⟩, 34) := ⟨⟨by decide +kernel, by decide +kernel⟩, List.mem_of_getElem? (i := 867) (by decide +kernel), List.mem_of_getElem? (i := 1091) (by decide +kernel), List.mem_of_getElem? (i := 1092) (by decide +kernel)⟩
theorem lw_p35 : lw_okq (⟨"OstlerHoursModel", "rides", "(II)V"⟩, 34) := ⟨⟨by decide +kernel, by decide +kernel⟩, List.mem_of_getElem? (i := 867) (by decide +kernel), List.mem_of_getElem? (i := 1095) (by decide +kernel), List.mem_of_getElem? (i := 1096) (by decide +kernel)⟩
theorem lw_p36 : lw_okq (⟨"OstlerHoursModel", "givenIn", "(II)I"⟩, 34) := ⟨⟨by decide +kernel, by decide +kernel⟩, List.mem_of_getElem? (i := 867) (by decide +kernel), List.mem_of_getElem? (i := 1099) (by decide +kernel), List.mem_of_getElem? (i := 1100) (by decide +kernel)⟩
theorem lw_p37 : lw_okq (⟨"OstlerHoursModel", "tire", "(III)V"⟩, 34) := ⟨⟨by decide +kernel, by decide +kernel⟩, List.mem_of_getElem? (i := 867) (by decide +kernel), List.mem_of_getElem? (i := 1107) (by decide +kernel), List.mem_of_getElem? (i := 1108) (by decide +kernel)⟩
theorem lw_p38 : lw_okq (⟨"OstlerHoursModel", "milesOn", "(III)I"⟩, 34) := ⟨⟨by decide +kernel, by decide +kernel⟩, List.mem_of_getElem? (i := 867) (by decide +kernel), List.mem_of_getElem? (i := 1111) (by decide +kernel), List.mem_of_getElem? (i := 1112) (by decide +kernel)⟩
theorem lw_p39 : lw_okq (⟨"OstlerHoursModel", "leads", "(II)V"⟩, 34) := ⟨⟨by decide +kernel, by decide +kernel⟩, List.mem_of_getElem? (i := 867) (by decide +kernel), List.mem_of_getElem? (i := 1121) (by decide +kernel), List.mem_of_getElem? (i := 1122) (by decide +kernel)⟩
theorem lw_p40 : lw_okq (⟨"OstlerHoursModel", "restAll", "(I)V"⟩, 34) := ⟨⟨by decide +kernel, by decide +kernel⟩, List.mem_of_getElem? (i := 867) (by decide +kernel), List.mem_of_getElem? (i := 1125) (by decide +kernel), List.mem_of_getElem? (i := 1126) (by decide +kernel)⟩
theorem lw_p41 : lw_okq (⟨"OstlerHoursModel", "oat", "(II)V"⟩, 34) := ⟨⟨by decide +kernel, by decide +kernel⟩, List.mem_of_getElem? (i := 867) (by decide +kernel), List.mem_of_getElem? (i := 1136) (by decide +kernel), List.mem_of_getElem? (i := 1137) (by decide +kernel)⟩
theorem lw_p42 : lw_okq (⟨"OstlerHoursModel", "isRiding", "(I)Z"⟩, 34) := ⟨⟨by decide +kernel, by decide +kernel⟩, List.mem_of_getElem? (i := 867) (by decide +kernel), List.mem_of_getElem? (i := 1168) (by decide +kernel), List.mem_of_getElem? (i := 1169) (by decide +kernel)⟩
theorem lw_p43 : lw_okq (⟨"OstlerHoursModel", "layTried", "()V"⟩, 34) := ⟨⟨by decide +kernel, by decide +kernel⟩, List.mem_of_getElem? (i := 867) (by decide +kernel), List.mem_of_getElem? (i := 1178) (by decide +kernel), List.mem_of_getElem? (i := 1179) (by decide +kernel)⟩
theorem lw_p44 : lw_okq (⟨"OstlerHoursModel", "comesBy", "(II)I"⟩, 34) := ⟨⟨by decide +kernel, by decide +kernel⟩, List.mem_of_getElem? (i := 867) (by decide +kernel), List.mem_of_getElem? (i := 1186) (by decide +kernel), List.mem_of_getElem? (i := 1187) (by decide +kernel)⟩
theorem lw_p45 : lw_okq (⟨"OstlerHoursModel", "takenByLine", "()I"⟩, 34) := ⟨⟨by decide +kernel, by decide +kernel⟩, List.mem_of_getElem? (i := 867) (by decide +kernel), List.mem_of_getElem? (i := 1194) (by decide +kernel), List.mem_of_getElem? (i := 1195) (by decide +kernel)⟩
theorem lw_p46 : lw_okq (⟨"OstlerHoursModel", "nextLine", "()Z"⟩, 34) := ⟨⟨by decide +kernel, by decide +kernel⟩, List.mem_of_getElem? (i := 867) (by decide +kernel), List.mem_of_getElem? (i := 1198) (by decide +kernel), List.mem_of_getElem? (i := 1199) (by decide +kernel)⟩
theorem lw_p47 : lw_okq (⟨"OstlerHoursModel", "fastestAt", "(II)I"⟩, 34) := ⟨⟨by decide +kernel, by decide +kernel⟩, List.mem_of_getElem? (i := 867) (by decide +kernel), List.mem_of_getElem? (i := 1206) (by decide +kernel), List.mem_of_getElem? (i := 1207) (by decide +kernel)⟩
def lw_privs_3 : List (MethodName × Nat) := [(⟨"OstlerHoursModel", "isInn", "(I)Z"⟩, 34), (⟨"OstlerHoursModel", "keepPast", "()V"⟩, 34), (⟨"OstlerHoursModel", "passes", "(I)V"⟩, 34), (⟨"OstlerHoursModel", "rides", "(II)V"⟩, 34), (⟨"OstlerHoursModel", "givenIn", "(II)I"⟩, 34), (⟨"OstlerHoursModel", "tire", "(III)V"⟩, 34), (⟨"OstlerHoursModel", "milesOn", "(III)I"⟩, 34), (⟨"OstlerHoursModel", "leads", "(II)V"⟩, 34), (⟨"OstlerHoursModel", "restAll", "(I)V"⟩, 34), (⟨"OstlerHoursModel", "oat", "(II)V"⟩, 34), (⟨"OstlerHoursModel", "isRiding", "(I)Z"⟩, 34), (⟨"OstlerHoursModel", "layTried", "()V"⟩, 34), (⟨"OstlerHoursModel", "comesBy", "(II)I"⟩, 34), (⟨"OstlerHoursModel", "takenByLine", "()I"⟩, 34), (⟨"OstlerHoursModel", "nextLine", "()Z"⟩, 34), (⟨"OstlerHoursModel", "fastestAt", "(II)I"⟩, 34)]
theorem lw_r3 : ∀ q ∈ lw_privs_3, lw_okq q := List.forall_mem_cons.mpr ⟨lw_p32, List.forall_mem_cons.mpr ⟨lw_p33, List.forall_mem_cons.mpr ⟨lw_p34, List.forall_mem_cons.mpr ⟨lw_p35, List.forall_mem_cons.mpr ⟨lw_p36, List.forall_mem_cons.mpr ⟨lw_p37, List.forall_mem_cons.mpr ⟨lw_p38, List.forall_mem_cons.mpr ⟨lw_p39, List.forall_mem_cons.mpr ⟨lw_p40, List.forall_mem_cons.mpr ⟨lw_p41, List.forall_mem_cons.mpr ⟨lw_p42, List.forall_mem_cons.mpr ⟨lw_p43, List.forall_mem_cons.mpr ⟨lw_p44, List.forall_mem_cons.mpr ⟨lw_p45, List.forall_mem_cons.mpr ⟨lw_p46, List.forall_mem_cons.mpr ⟨lw_p47, fun _ h => absurd h List.not_mem_nil⟩⟩⟩⟩⟩⟩⟩⟩⟩⟩⟩⟩⟩⟩⟩⟩
theorem lw_p48 : lw_okq (⟨"OstlerHoursModel", "noLine", "(II)I"⟩, 34) := ⟨⟨by decide +kernel, by decide +kernel⟩, List.mem_of_getElem? (i := 867) (by decide +kernel), List.mem_of_getElem? (i := 1259) (by decide +kernel), List.mem_of_getElem? (i := 1260) (by decide +kernel)⟩
theorem lw_p49 : lw_okq (⟨"OstlerHoursModel", "toldBy", "(I)I"⟩, 34) := ⟨⟨by decide +kernel, by decide +kernel⟩, List.mem_of_getElem? (i := 867) (by decide +kernel), List.mem_of_getElem? (i := 1272) (by decide +kernel), List.mem_of_getElem? (i := 1273) (by decide +kernel)⟩
theorem lw_p50 : lw_okq (⟨"OstlerHoursModel", "weightOf", "(I)I"⟩, 34) := ⟨⟨by decide +kernel, by decide +kernel⟩, List.mem_of_getElem? (i := 867) (by decide +kernel), List.mem_of_getElem? (i := 1277) (by decide +kernel), List.mem_of_getElem? (i := 1278) (by decide +kernel)⟩
theorem lw_p51 : lw_okq (⟨"OstlerHoursModel", "isSpan", "(III)Z"⟩, 34) := ⟨⟨by decide +kernel, by decide +kernel⟩, List.mem_of_getElem? (i := 867) (by decide +kernel), List.mem_of_getElem? (i := 1285) (by decide +kernel), List.mem_of_getElem? (i := 1286) (by decide +kernel)⟩
theorem lw_p52 : lw_okq (⟨"OstlerHoursModel", "lameOnes", "()I"⟩, 34) := ⟨⟨by decide +kernel, by decide +kernel⟩, List.mem_of_getElem? (i := 867) (by decide +kernel), List.mem_of_getElem? (i := 1297) (by decide +kernel), List.mem_of_getElem? (i := 1298) (by decide +kernel)⟩
theorem lw_p53 : lw_okq (⟨"OstlerHoursModel", "thereOnes", "()I"⟩, 34) := ⟨⟨by decide +kernel, by decide +kernel⟩, List.mem_of_getElem? (i := 867) (by decide +kernel), List.mem_of_getElem? (i := 1301) (by decide +kernel), List.mem_of_getElem? (i := 1302) (by decide +kernel)⟩
theorem lw_p54 : lw_okq (⟨"OstlerHoursModel", "clocks", "()I"⟩, 34) := ⟨⟨by decide +kernel, by decide +kernel⟩, List.mem_of_getElem? (i := 867) (by decide +kernel), List.mem_of_getElem? (i := 1305) (by decide +kernel), List.mem_of_getElem? (i := 1306) (by decide +kernel)⟩
theorem lw_p55 : lw_okq (⟨"OstlerHoursModel", "booksThere", "()I"⟩, 34) := ⟨⟨by decide +kernel, by decide +kernel⟩, List.mem_of_getElem? (i := 867) (by decide +kernel), List.mem_of_getElem? (i := 1309) (by decide +kernel), List.mem_of_getElem? (i := 1310) (by decide +kernel)⟩
def lw_privs_4 : List (MethodName × Nat) := [(⟨"OstlerHoursModel", "noLine", "(II)I"⟩, 34), (⟨"OstlerHoursModel", "toldBy", "(I)I"⟩, 34), (⟨"OstlerHoursModel", "weightOf", "(I)I"⟩, 34), (⟨"OstlerHoursModel", "isSpan", "(III)Z"⟩, 34), (⟨"OstlerHoursModel", "lameOnes", "()I"⟩, 34), (⟨"OstlerHoursModel", "thereOnes", "()I"⟩, 34), (⟨"OstlerHoursModel", "clocks", "()I"⟩, 34), (⟨"OstlerHoursModel", "booksThere", "()I"⟩, 34)]
theorem lw_r4 : ∀ q ∈ lw_privs_4, lw_okq q := List.forall_mem_cons.mpr ⟨lw_p48, List.forall_mem_cons.mpr ⟨lw_p49, List.forall_mem_cons.mpr ⟨lw_p50, List.forall_mem_cons.mpr ⟨lw_p51, List.forall_mem_cons.mpr ⟨lw_p52, List.forall_mem_cons.mpr ⟨lw_p53, List.forall_mem_cons.mpr ⟨lw_p54, List.forall_mem_cons.mpr ⟨lw_p55, fun _ h => absurd h List.not_mem_nil⟩⟩⟩⟩⟩⟩⟩⟩
def lw_privs : List (MethodName × Nat) := lw_privs_1 ++ (lw_privs_2 ++ (lw_privs_3 ++ (lw_privs_4)))
def lw_tbl : List Cond := k2_sels lw_privs ++ tables_1
theorem lw_privs_ok : ∀ q ∈ lw_privs, lw_okq q := by
  show ∀ q ∈ lw_privs_1 ++ (lw_privs_2 ++ (lw_privs_3 ++ (lw_privs_4))), lw_okq q
  exact List.forall_mem_append.mpr ⟨lw_r1, List.forall_mem_append.mpr ⟨lw_r2, List.forall_mem_append.mpr ⟨lw_r3, lw_r4⟩⟩⟩
def RX0 : String := "OstlerHours$Book"
def TX0 : u_T := fun k => match k with
  | 0 => ("OstlerHours$Book", "has", "[I", true)
  | 1 => ("OstlerHours$Book", "value", "[I", true)
  | _ => ("OstlerHours$Book", "lines", "I", false)
def tyX0 : Nat → FieldType := fun k => match k with
  | 0 => .array .int
  | 1 => .array .int
  | _ => .int
theorem nmX0 : ∀ a, a < 3 → ∀ b, b < 3 → a ≠ b → (TX0 a).2.1 ≠ (TX0 b).2.1 := by decide +kernel
theorem tyX0_ok : ∀ k, k < 3 → parseFieldDescriptor (TX0 k).2.2.1 = some (tyX0 k) := by decide +kernel
abbrev cX0_init : ByteArray := prog_2_method_1_code
def yX0_init : MethodName := ⟨RX0, "<init>", "()V"⟩
abbrev cX0_open : ByteArray := prog_2_method_2_code
def yX0_open : MethodName := ⟨RX0, "open", "(I)V"⟩
abbrev cX0_close : ByteArray := prog_2_method_3_code
def yX0_close : MethodName := ⟨RX0, "close", "()V"⟩
abbrev cX0_isMissing : ByteArray := prog_2_method_4_code
def yX0_isMissing : MethodName := ⟨RX0, "isMissing", "()Z"⟩
abbrev cX0_hasLine : ByteArray := prog_2_method_5_code
def yX0_hasLine : MethodName := ⟨RX0, "hasLine", "(I)Z"⟩
abbrev cX0_hasLines : ByteArray := prog_2_method_6_code
def yX0_hasLines : MethodName := ⟨RX0, "hasLines", "(II)Z"⟩
abbrev cX0_filledLines : ByteArray := prog_2_method_7_code
def yX0_filledLines : MethodName := ⟨RX0, "filledLines", "()I"⟩
abbrev cX0_toldBooks : ByteArray := prog_2_method_8_code
def yX0_toldBooks : MethodName := ⟨RX0, "toldBooks", "()I"⟩
abbrev cX0_ownWeight : ByteArray := prog_2_method_9_code
def yX0_ownWeight : MethodName := ⟨RX0, "ownWeight", "()I"⟩
def RX1 : String := "OstlerHours$Day"
def TX1 : u_T := fun k => match k with
  | 0 => ("OstlerHours$Day", "told", "LOstlerHours$Road;", true)
  | 1 => ("OstlerHours$Day", "number", "I", false)
  | 2 => ("OstlerHours$Day", "place", "[I", true)
  | 3 => ("OstlerHours$Day", "tired", "[I", true)
  | 4 => ("OstlerHours$Day", "ridden", "[I", true)
  | 5 => ("OstlerHours$Day", "lame", "I", false)
  | 6 => ("OstlerHours$Day", "at", "[I", true)
  | 7 => ("OstlerHours$Day", "to", "[I", true)
  | _ => ("OstlerHours$Day", "clock", "[I", true)
def tyX1 : Nat → FieldType := fun k => match k with
  | 0 => .object "OstlerHours$Road"
  | 1 => .int
  | 2 => .array .int
  | 3 => .array .int
  | 4 => .array .int
  | 5 => .int
  | 6 => .array .int
  | 7 => .array .int
  | _ => .array .int
theorem nmX1 : ∀ a, a < 9 → ∀ b, b < 9 → a ≠ b → (TX1 a).2.1 ≠ (TX1 b).2.1 := by decide +kernel
theorem tyX1_ok : ∀ k, k < 9 → parseFieldDescriptor (TX1 k).2.2.1 = some (tyX1 k) := by decide +kernel
abbrev cX1_init : ByteArray := prog_3_method_1_code
def yX1_init : MethodName := ⟨RX1, "<init>", "(LOstlerHours$Road;)V"⟩
abbrev cX1_begin : ByteArray := prog_3_method_2_code
def yX1_begin : MethodName := ⟨RX1, "begin", "()V"⟩
abbrev cX1_become : ByteArray := prog_3_method_3_code
def yX1_become : MethodName := ⟨RX1, "become", "(LOstlerHours$Day;)V"⟩
abbrev cX1_isLame : ByteArray := prog_3_method_4_code
def yX1_isLame : MethodName := ⟨RX1, "isLame", "(I)Z"⟩
abbrev cX1_isThere : ByteArray := prog_3_method_5_code
def yX1_isThere : MethodName := ⟨RX1, "isThere", "(I)Z"⟩
abbrev cX1_ridersThere : ByteArray := prog_3_method_6_code
def yX1_ridersThere : MethodName := ⟨RX1, "ridersThere", "()I"⟩
abbrev cX1_allClocks : ByteArray := prog_3_method_7_code
def yX1_allClocks : MethodName := ⟨RX1, "allClocks", "()I"⟩
abbrev cX1_tiredHours : ByteArray := prog_3_method_8_code
def yX1_tiredHours : MethodName := ⟨RX1, "tiredHours", "()I"⟩
abbrev cX1_giveOats : ByteArray := prog_3_method_9_code
def yX1_giveOats : MethodName := ⟨RX1, "giveOats", "(I)V"⟩
abbrev cX1_giveShoes : ByteArray := prog_3_method_10_code
def yX1_giveShoes : MethodName := ⟨RX1, "giveShoes", "(I)V"⟩
abbrev cX1_healIfRested : ByteArray := prog_3_method_11_code
def yX1_healIfRested : MethodName := ⟨RX1, "healIfRested", "(I)V"⟩
abbrev cX1_chooseHour : ByteArray := prog_3_method_12_code
def yX1_chooseHour : MethodName := ⟨RX1, "chooseHour", "(II)I"⟩
abbrev cX1_passStage : ByteArray := prog_3_method_13_code
def yX1_passStage : MethodName := ⟨RX1, "passStage", "()V"⟩
abbrev cX1_sendOff : ByteArray := prog_3_method_14_code
def yX1_sendOff : MethodName := ⟨RX1, "sendOff", "(II)I"⟩
abbrev cX1_tire : ByteArray := prog_3_method_15_code
def yX1_tire : MethodName := ⟨RX1, "tire", "(II)V"⟩
abbrev cX1_leadHome : ByteArray := prog_3_method_16_code
def yX1_leadHome : MethodName := ⟨RX1, "leadHome", "(II)I"⟩
abbrev cX1_rest : ByteArray := prog_3_method_17_code
def yX1_rest : MethodName := ⟨RX1, "rest", "(I)V"⟩
abbrev cX1_passUntilThere : ByteArray := prog_3_method_18_code
def yX1_passUntilThere : MethodName := ⟨RX1, "passUntilThere", "(II)I"⟩
abbrev cX1_fastestRide : ByteArray := prog_3_method_19_code
def yX1_fastestRide : MethodName := ⟨RX1, "fastestRide", "(I)I"⟩
abbrev cX1_leastTaken : ByteArray := prog_3_method_20_code
def yX1_leastTaken : MethodName := ⟨RX1, "leastTaken", "(II)I"⟩
def RX2 : String := "OstlerHours$Kind"
def TX2 : u_T := fun k => match k with
  | _ => ("", "", "", false)
def tyX2 : Nat → FieldType := fun k => match k with
  | _ => .int
theorem nmX2 : ∀ a, a < 0 → ∀ b, b < 0 → a ≠ b → (TX2 a).2.1 ≠ (TX2 b).2.1 := by decide +kernel
theorem tyX2_ok : ∀ k, k < 0 → parseFieldDescriptor (TX2 k).2.2.1 = some (tyX2 k) := by decide +kernel
abbrev cX2_takes : ByteArray := prog_4_method_2_code
def yX2_takes : MethodName := ⟨RX2, "takes", "(II)I"⟩
abbrev cX2_tires : ByteArray := prog_4_method_3_code
def yX2_tires : MethodName := ⟨RX2, "tires", "(II)I"⟩
abbrev cX2_rests : ByteArray := prog_4_method_4_code
def yX2_rests : MethodName := ⟨RX2, "rests", "(I)I"⟩
abbrev cX2_isWilling : ByteArray := prog_4_method_5_code
def yX2_isWilling : MethodName := ⟨RX2, "isWilling", "(I)Z"⟩
abbrev cX2_throwsOff : ByteArray := prog_4_method_6_code
def yX2_throwsOff : MethodName := ⟨RX2, "throwsOff", "(II)Z"⟩
abbrev cX2_isUnder : ByteArray := prog_4_method_7_code
def yX2_isUnder : MethodName := ⟨RX2, "isUnder", "(II)Z"⟩
def RX3 : String := "OstlerHours$Odds"
def TX3 : u_T := fun k => match k with
  | _ => ("", "", "", false)
def tyX3 : Nat → FieldType := fun k => match k with
  | _ => .int
theorem nmX3 : ∀ a, a < 0 → ∀ b, b < 0 → a ≠ b → (TX3 a).2.1 ≠ (TX3 b).2.1 := by decide +kernel
theorem tyX3_ok : ∀ k, k < 0 → parseFieldDescriptor (TX3 k).2.2.1 = some (tyX3 k) := by decide +kernel
abbrev cX3_ofFalls : ByteArray := prog_5_method_2_code
def yX3_ofFalls : MethodName := ⟨RX3, "ofFalls", "(IIII)I"⟩
abbrev cX3_ways : ByteArray := prog_5_method_3_code
def yX3_ways : MethodName := ⟨RX3, "ways", "(II)J"⟩
abbrev cX3_power : ByteArray := prog_5_method_4_code
def yX3_power : MethodName := ⟨RX3, "power", "(II)J"⟩
def RX4 : String := "OstlerHours$Pairing"
def TX4 : u_T := fun k => match k with
  | 0 => ("OstlerHours$Pairing", "tried", "[I", true)
  | 1 => ("OstlerHours$Pairing", "best", "[I", true)
  | 2 => ("OstlerHours$Pairing", "least", "I", false)
  | _ => ("OstlerHours$Pairing", "found", "Z", false)
def tyX4 : Nat → FieldType := fun k => match k with
  | 0 => .array .int
  | 1 => .array .int
  | 2 => .int
  | _ => .boolean
theorem nmX4 : ∀ a, a < 4 → ∀ b, b < 4 → a ≠ b → (TX4 a).2.1 ≠ (TX4 b).2.1 := by decide +kernel
theorem tyX4_ok : ∀ k, k < 4 → parseFieldDescriptor (TX4 k).2.2.1 = some (tyX4 k) := by decide +kernel
abbrev cX4_init : ByteArray := prog_6_method_1_code
def yX4_init : MethodName := ⟨RX4, "<init>", "()V"⟩
abbrev cX4_pair : ByteArray := prog_6_method_2_code
def yX4_pair : MethodName := ⟨RX4, "pair", "(LOstlerHours$Day;)V"⟩
abbrev cX4_pairFrom : ByteArray := prog_6_method_3_code
def yX4_pairFrom : MethodName := ⟨RX4, "pairFrom", "(LOstlerHours$Pairing;LOstlerHours$Day;III)V"⟩
abbrev cX4_accept : ByteArray := prog_6_method_4_code
def yX4_accept : MethodName := ⟨RX4, "accept", "(I)V"⟩
def RX5 : String := "OstlerHours$Parser"
def TX5 : u_T := fun k => match k with
  | 0 => ("OstlerHours$Parser", "text", "LOstlerHours$Text;", true)
  | 1 => ("OstlerHours$Parser", "draft", "LOstlerHours$Road;", true)
  | _ => ("OstlerHours$Parser", "clauses", "I", false)
def tyX5 : Nat → FieldType := fun k => match k with
  | 0 => .object "OstlerHours$Text"
  | 1 => .object "OstlerHours$Road"
  | _ => .int
theorem nmX5 : ∀ a, a < 3 → ∀ b, b < 3 → a ≠ b → (TX5 a).2.1 ≠ (TX5 b).2.1 := by decide +kernel
theorem tyX5_ok : ∀ k, k < 3 → parseFieldDescriptor (TX5 k).2.2.1 = some (tyX5 k) := by decide +kernel
abbrev cX5_init : ByteArray := prog_7_method_1_code
def yX5_init : MethodName := ⟨RX5, "<init>", "(LOstlerHours$Text;)V"⟩
abbrev cX5_findFault : ByteArray := prog_7_method_2_code
def yX5_findFault : MethodName := ⟨RX5, "findFault", "(LOstlerHours$Road;)I"⟩
abbrev cX5_takeClause : ByteArray := prog_7_method_3_code
def yX5_takeClause : MethodName := ⟨RX5, "takeClause", "()Z"⟩
abbrev cX5_wordNumber : ByteArray := prog_7_method_4_code
def yX5_wordNumber : MethodName := ⟨RX5, "wordNumber", "()I"⟩
abbrev cX5_isOneTooMany : ByteArray := prog_7_method_5_code
def yX5_isOneTooMany : MethodName := ⟨RX5, "isOneTooMany", "(I)Z"⟩
abbrev cX5_takeInn : ByteArray := prog_7_method_6_code
def yX5_takeInn : MethodName := ⟨RX5, "takeInn", "()Z"⟩
abbrev cX5_takeHour : ByteArray := prog_7_method_7_code
def yX5_takeHour : MethodName := ⟨RX5, "takeHour", "(I)Z"⟩
abbrev cX5_takeRider : ByteArray := prog_7_method_8_code
def yX5_takeRider : MethodName := ⟨RX5, "takeRider", "()Z"⟩
abbrev cX5_takeNumber : ByteArray := prog_7_method_9_code
def yX5_takeNumber : MethodName := ⟨RX5, "takeNumber", "(II)I"⟩
def RX6 : String := "OstlerHours$Past"
def TX6 : u_T := fun k => match k with
  | 0 => ("OstlerHours$Past", "days", "[LOstlerHours$Day;", true)
  | 1 => ("OstlerHours$Past", "next", "I", false)
  | _ => ("OstlerHours$Past", "size", "I", false)
def tyX6 : Nat → FieldType := fun k => match k with
  | 0 => .array (.object "OstlerHours$Day")
  | 1 => .int
  | _ => .int
theorem nmX6 : ∀ a, a < 3 → ∀ b, b < 3 → a ≠ b → (TX6 a).2.1 ≠ (TX6 b).2.1 := by decide +kernel
theorem tyX6_ok : ∀ k, k < 3 → parseFieldDescriptor (TX6 k).2.2.1 = some (tyX6 k) := by decide +kernel
abbrev cX6_init : ByteArray := prog_8_method_1_code
def yX6_init : MethodName := ⟨RX6, "<init>", "(LOstlerHours$Road;)V"⟩
abbrev cX6_remember : ByteArray := prog_8_method_2_code
def yX6_remember : MethodName := ⟨RX6, "remember", "(LOstlerHours$Day;)V"⟩
abbrev cX6_clear : ByteArray := prog_8_method_3_code
def yX6_clear : MethodName := ⟨RX6, "clear", "()V"⟩
abbrev cX6_restore : ByteArray := prog_8_method_4_code
def yX6_restore : MethodName := ⟨RX6, "restore", "(LOstlerHours$Day;)V"⟩
def RX7 : String := "OstlerHours$Road"
def TX7 : u_T := fun k => match k with
  | 0 => ("OstlerHours$Road", "inns", "I", false)
  | 1 => ("OstlerHours$Road", "hours", "I", false)
  | 2 => ("OstlerHours$Road", "riders", "I", false)
  | 3 => ("OstlerHours$Road", "miles", "[I", true)
  | 4 => ("OstlerHours$Road", "kind", "[I", true)
  | 5 => ("OstlerHours$Road", "home", "[I", true)
  | 6 => ("OstlerHours$Road", "tired", "[I", true)
  | 7 => ("OstlerHours$Road", "from", "[I", true)
  | _ => ("OstlerHours$Road", "to", "[I", true)
def tyX7 : Nat → FieldType := fun k => match k with
  | 0 => .int
  | 1 => .int
  | 2 => .int
  | 3 => .array .int
  | 4 => .array .int
  | 5 => .array .int
  | 6 => .array .int
  | 7 => .array .int
  | _ => .array .int
theorem nmX7 : ∀ a, a < 9 → ∀ b, b < 9 → a ≠ b → (TX7 a).2.1 ≠ (TX7 b).2.1 := by decide +kernel
theorem tyX7_ok : ∀ k, k < 9 → parseFieldDescriptor (TX7 k).2.2.1 = some (tyX7 k) := by decide +kernel
abbrev cX7_init : ByteArray := prog_9_method_1_code
def yX7_init : MethodName := ⟨RX7, "<init>", "()V"⟩
abbrev cX7_clear : ByteArray := prog_9_method_2_code
def yX7_clear : MethodName := ⟨RX7, "clear", "()V"⟩
abbrev cX7_become : ByteArray := prog_9_method_3_code
def yX7_become : MethodName := ⟨RX7, "become", "(LOstlerHours$Road;)V"⟩
abbrev cX7_hasInn : ByteArray := prog_9_method_4_code
def yX7_hasInn : MethodName := ⟨RX7, "hasInn", "(I)Z"⟩
abbrev cX7_hasHour : ByteArray := prog_9_method_5_code
def yX7_hasHour : MethodName := ⟨RX7, "hasHour", "(I)Z"⟩
abbrev cX7_hasRider : ByteArray := prog_9_method_6_code
def yX7_hasRider : MethodName := ⟨RX7, "hasRider", "(I)Z"⟩
abbrev cX7_addInn : ByteArray := prog_9_method_7_code
def yX7_addInn : MethodName := ⟨RX7, "addInn", "(I)V"⟩
abbrev cX7_addHour : ByteArray := prog_9_method_8_code
def yX7_addHour : MethodName := ⟨RX7, "addHour", "(III)V"⟩
abbrev cX7_addRider : ByteArray := prog_9_method_9_code
def yX7_addRider : MethodName := ⟨RX7, "addRider", "(II)V"⟩
abbrev cX7_nextInn : ByteArray := prog_9_method_10_code
def yX7_nextInn : MethodName := ⟨RX7, "nextInn", "(II)I"⟩
abbrev cX7_milesBetween : ByteArray := prog_9_method_11_code
def yX7_milesBetween : MethodName := ⟨RX7, "milesBetween", "(II)I"⟩
def RX8 : String := "OstlerHours$Shelf"
def TX8 : u_T := fun k => match k with
  | _ => ("OstlerHours$Shelf", "books", "[LOstlerHours$Book;", true)
def tyX8 : Nat → FieldType := fun k => match k with
  | _ => .array (.object "OstlerHours$Book")
theorem nmX8 : ∀ a, a < 1 → ∀ b, b < 1 → a ≠ b → (TX8 a).2.1 ≠ (TX8 b).2.1 := by decide +kernel
theorem tyX8_ok : ∀ k, k < 1 → parseFieldDescriptor (TX8 k).2.2.1 = some (tyX8 k) := by decide +kernel
abbrev cX8_init : ByteArray := prog_10_method_1_code
def yX8_init : MethodName := ⟨RX8, "<init>", "()V"⟩
abbrev cX8_hasPlace : ByteArray := prog_10_method_2_code
def yX8_hasPlace : MethodName := ⟨RX8, "hasPlace", "(I)Z"⟩
abbrev cX8_closeAll : ByteArray := prog_10_method_3_code
def yX8_closeAll : MethodName := ⟨RX8, "closeAll", "()V"⟩
abbrev cX8_openBooks : ByteArray := prog_10_method_4_code
def yX8_openBooks : MethodName := ⟨RX8, "openBooks", "()I"⟩
abbrev cX8_reachFrom : ByteArray := prog_10_method_5_code
def yX8_reachFrom : MethodName := ⟨RX8, "reachFrom", "(I)I"⟩
abbrev cX8_toldByAll : ByteArray := prog_10_method_6_code
def yX8_toldByAll : MethodName := ⟨RX8, "toldByAll", "(I)I"⟩
abbrev cX8_withoutMissing : ByteArray := prog_10_method_7_code
def yX8_withoutMissing : MethodName := ⟨RX8, "withoutMissing", "(I)I"⟩
abbrev cX8_weightOf : ByteArray := prog_10_method_8_code
def yX8_weightOf : MethodName := ⟨RX8, "weightOf", "(I)I"⟩
def RX9 : String := "OstlerHours$Sightings"
def TX9 : u_T := fun k => match k with
  | 0 => ("OstlerHours$Sightings", "miles", "[I", true)
  | 1 => ("OstlerHours$Sightings", "took", "[I", true)
  | 2 => ("OstlerHours$Sightings", "tiredBy", "[I", true)
  | _ => ("OstlerHours$Sightings", "size", "I", false)
def tyX9 : Nat → FieldType := fun k => match k with
  | 0 => .array .int
  | 1 => .array .int
  | 2 => .array .int
  | _ => .int
theorem nmX9 : ∀ a, a < 4 → ∀ b, b < 4 → a ≠ b → (TX9 a).2.1 ≠ (TX9 b).2.1 := by decide +kernel
theorem tyX9_ok : ∀ k, k < 4 → parseFieldDescriptor (TX9 k).2.2.1 = some (tyX9 k) := by decide +kernel
abbrev cX9_init : ByteArray := prog_11_method_1_code
def yX9_init : MethodName := ⟨RX9, "<init>", "()V"⟩
abbrev cX9_append : ByteArray := prog_11_method_2_code
def yX9_append : MethodName := ⟨RX9, "append", "(III)V"⟩
abbrev cX9_clear : ByteArray := prog_11_method_3_code
def yX9_clear : MethodName := ⟨RX9, "clear", "()V"⟩
abbrev cX9_fittingKinds : ByteArray := prog_11_method_4_code
def yX9_fittingKinds : MethodName := ⟨RX9, "fittingKinds", "()I"⟩
abbrev cX9_fits : ByteArray := prog_11_method_5_code
def yX9_fits : MethodName := ⟨RX9, "fits", "(I)Z"⟩
abbrev cX9_bestMiles : ByteArray := prog_11_method_6_code
def yX9_bestMiles : MethodName := ⟨RX9, "bestMiles", "()I"⟩
abbrev cX9_greatestPart : ByteArray := prog_11_method_7_code
def yX9_greatestPart : MethodName := ⟨RX9, "greatestPart", "(II)I"⟩
abbrev cX9_likeKinds : ByteArray := prog_11_method_8_code
def yX9_likeKinds : MethodName := ⟨RX9, "likeKinds", "(III)I"⟩
def RX10 : String := "OstlerHours$Text"
def TX10 : u_T := fun k => match k with
  | 0 => ("OstlerHours$Text", "letters", "[I", true)
  | 1 => ("OstlerHours$Text", "behind", "I", false)
  | 2 => ("OstlerHours$Text", "length", "I", false)
  | 3 => ("OstlerHours$Text", "place", "I", false)
  | _ => ("OstlerHours$Text", "sort", "I", false)
def tyX10 : Nat → FieldType := fun k => match k with
  | 0 => .array .int
  | 1 => .int
  | 2 => .int
  | 3 => .int
  | _ => .int
theorem nmX10 : ∀ a, a < 5 → ∀ b, b < 5 → a ≠ b → (TX10 a).2.1 ≠ (TX10 b).2.1 := by decide +kernel
theorem tyX10_ok : ∀ k, k < 5 → parseFieldDescriptor (TX10 k).2.2.1 = some (tyX10 k) := by decide +kernel
abbrev cX10_init : ByteArray := prog_12_method_1_code
def yX10_init : MethodName := ⟨RX10, "<init>", "()V"⟩
abbrev cX10_append : ByteArray := prog_12_method_2_code
def yX10_append : MethodName := ⟨RX10, "append", "(I)V"⟩
abbrev cX10_clear : ByteArray := prog_12_method_3_code
def yX10_clear : MethodName := ⟨RX10, "clear", "()V"⟩
abbrev cX10_firstToken : ByteArray := prog_12_method_4_code
def yX10_firstToken : MethodName := ⟨RX10, "firstToken", "()V"⟩
abbrev cX10_nextToken : ByteArray := prog_12_method_5_code
def yX10_nextToken : MethodName := ⟨RX10, "nextToken", "()V"⟩
abbrev cX10_sortOf : ByteArray := prog_12_method_6_code
def yX10_sortOf : MethodName := ⟨RX10, "sortOf", "(I)I"⟩
abbrev cX10_isSemicolon : ByteArray := prog_12_method_7_code
def yX10_isSemicolon : MethodName := ⟨RX10, "isSemicolon", "()Z"⟩
abbrev cX10_isWord : ByteArray := prog_12_method_8_code
def yX10_isWord : MethodName := ⟨RX10, "isWord", "(Ljava/lang/String;)Z"⟩
abbrev cX10_digit : ByteArray := prog_12_method_9_code
def yX10_digit : MethodName := ⟨RX10, "digit", "()I"⟩
def RX11 : String := "OstlerHours"
def TX11 : u_T := fun k => match k with
  | 0 => ("OstlerHours", "told", "LOstlerHours$Road;", true)
  | 1 => ("OstlerHours", "text", "LOstlerHours$Text;", true)
  | 2 => ("OstlerHours", "parser", "LOstlerHours$Parser;", true)
  | 3 => ("OstlerHours", "now", "LOstlerHours$Day;", true)
  | 4 => ("OstlerHours", "foretold", "LOstlerHours$Day;", true)
  | 5 => ("OstlerHours", "past", "LOstlerHours$Past;", true)
  | 6 => ("OstlerHours", "kept", "[LOstlerHours$Day;", true)
  | 7 => ("OstlerHours", "isKept", "[Z", true)
  | 8 => ("OstlerHours", "pairing", "LOstlerHours$Pairing;", true)
  | 9 => ("OstlerHours", "sightings", "LOstlerHours$Sightings;", true)
  | _ => ("OstlerHours", "shelf", "LOstlerHours$Shelf;", true)
def tyX11 : Nat → FieldType := fun k => match k with
  | 0 => .object "OstlerHours$Road"
  | 1 => .object "OstlerHours$Text"
  | 2 => .object "OstlerHours$Parser"
  | 3 => .object "OstlerHours$Day"
  | 4 => .object "OstlerHours$Day"
  | 5 => .object "OstlerHours$Past"
  | 6 => .array (.object "OstlerHours$Day")
  | 7 => .array .boolean
  | 8 => .object "OstlerHours$Pairing"
  | 9 => .object "OstlerHours$Sightings"
  | _ => .object "OstlerHours$Shelf"
theorem nmX11 : ∀ a, a < 11 → ∀ b, b < 11 → a ≠ b → (TX11 a).2.1 ≠ (TX11 b).2.1 := by decide +kernel
theorem tyX11_ok : ∀ k, k < 11 → parseFieldDescriptor (TX11 k).2.2.1 = some (tyX11 k) := by decide +kernel
abbrev cX11_init : ByteArray := prog_1_method_1_code
def yX11_init : MethodName := ⟨RX11, "<init>", "()V"⟩
abbrev cX11_write : ByteArray := prog_1_method_2_code
def yX11_write : MethodName := ⟨RX11, "write", "(I)I"⟩
abbrev cX11_erase : ByteArray := prog_1_method_3_code
def yX11_erase : MethodName := ⟨RX11, "erase", "()I"⟩
abbrev cX11_fault : ByteArray := prog_1_method_4_code
def yX11_fault : MethodName := ⟨RX11, "fault", "()I"⟩
abbrev cX11_road : ByteArray := prog_1_method_5_code
def yX11_road : MethodName := ⟨RX11, "road", "()I"⟩
abbrev cX11_hour : ByteArray := prog_1_method_6_code
def yX11_hour : MethodName := ⟨RX11, "hour", "(II)I"⟩
abbrev cX11_rider : ByteArray := prog_1_method_7_code
def yX11_rider : MethodName := ⟨RX11, "rider", "(II)I"⟩
abbrev cX11_inn : ByteArray := prog_1_method_8_code
def yX11_inn : MethodName := ⟨RX11, "inn", "(I)I"⟩
abbrev cX11_as : ByteArray := prog_1_method_9_code
def yX11_as : MethodName := ⟨RX11, "as", "(II)I"⟩
abbrev cX11_stage : ByteArray := prog_1_method_10_code
def yX11_stage : MethodName := ⟨RX11, "stage", "(I)I"⟩
abbrev cX11_oats : ByteArray := prog_1_method_11_code
def yX11_oats : MethodName := ⟨RX11, "oats", "(I)I"⟩
abbrev cX11_shoe : ByteArray := prog_1_method_12_code
def yX11_shoe : MethodName := ⟨RX11, "shoe", "(I)I"⟩
abbrev cX11_lead : ByteArray := prog_1_method_13_code
def yX11_lead : MethodName := ⟨RX11, "lead", "(II)I"⟩
abbrev cX11_turn : ByteArray := prog_1_method_14_code
def yX11_turn : MethodName := ⟨RX11, "turn", "(II)I"⟩
abbrev cX11_undo : ByteArray := prog_1_method_15_code
def yX11_undo : MethodName := ⟨RX11, "undo", "()I"⟩
abbrev cX11_keep : ByteArray := prog_1_method_16_code
def yX11_keep : MethodName := ⟨RX11, "keep", "(I)I"⟩
abbrev cX11_back : ByteArray := prog_1_method_17_code
def yX11_back : MethodName := ⟨RX11, "back", "(I)I"⟩
abbrev cX11_given : ByteArray := prog_1_method_18_code
def yX11_given : MethodName := ⟨RX11, "given", "(I)I"⟩
abbrev cX11_ahead : ByteArray := prog_1_method_19_code
def yX11_ahead : MethodName := ⟨RX11, "ahead", "(III)I"⟩
abbrev cX11_comes : ByteArray := prog_1_method_20_code
def yX11_comes : MethodName := ⟨RX11, "comes", "(II)I"⟩
abbrev cX11_match : ByteArray := prog_1_method_21_code
def yX11_match : MethodName := ⟨RX11, "match", "(I)I"⟩
abbrev cX11_fastest : ByteArray := prog_1_method_22_code
def yX11_fastest : MethodName := ⟨RX11, "fastest", "(I)I"⟩
abbrev cX11_feed : ByteArray := prog_1_method_23_code
def yX11_feed : MethodName := ⟨RX11, "feed", "(II)I"⟩
abbrev cX11_falls : ByteArray := prog_1_method_24_code
def yX11_falls : MethodName := ⟨RX11, "falls", "(IIII)I"⟩
abbrev cX11_seen : ByteArray := prog_1_method_25_code
def yX11_seen : MethodName := ⟨RX11, "seen", "(III)I"⟩
abbrev cX11_forget : ByteArray := prog_1_method_26_code
def yX11_forget : MethodName := ⟨RX11, "forget", "()I"⟩
abbrev cX11_kinds : ByteArray := prog_1_method_27_code
def yX11_kinds : MethodName := ⟨RX11, "kinds", "()I"⟩
abbrev cX11_ask : ByteArray := prog_1_method_28_code
def yX11_ask : MethodName := ⟨RX11, "ask", "()I"⟩
abbrev cX11_book : ByteArray := prog_1_method_29_code
def yX11_book : MethodName := ⟨RX11, "book", "(II)I"⟩
abbrev cX11_enter : ByteArray := prog_1_method_30_code
def yX11_enter : MethodName := ⟨RX11, "enter", "(IIII)I"⟩
abbrev cX11_read : ByteArray := prog_1_method_31_code
def yX11_read : MethodName := ⟨RX11, "read", "(III)I"⟩
abbrev cX11_weigh : ByteArray := prog_1_method_32_code
def yX11_weigh : MethodName := ⟨RX11, "weigh", "(II)I"⟩
abbrev cX11_copy : ByteArray := prog_1_method_33_code
def yX11_copy : MethodName := ⟨RX11, "copy", "(IIIII)I"⟩
abbrev cX11_drop : ByteArray := prog_1_method_34_code
def yX11_drop : MethodName := ⟨RX11, "drop", "(I)I"⟩
abbrev cX11_count : ByteArray := prog_1_method_35_code
def yX11_count : MethodName := ⟨RX11, "count", "(I)I"⟩
abbrev cX11_beginDay : ByteArray := prog_1_method_36_code
def yX11_beginDay : MethodName := ⟨RX11, "beginDay", "()V"⟩
abbrev cX11_comesFed : ByteArray := prog_1_method_37_code
def yX11_comesFed : MethodName := ⟨RX11, "comesFed", "(III)Z"⟩
def RX12 : String := "OstlerHoursModel"
def TX12 : u_T := fun k => match k with
  | 0 => ("OstlerHoursModel", "row", "[I", true)
  | 1 => ("OstlerHoursModel", "undos", "I", false)
  | 2 => ("OstlerHoursModel", "isKept", "[Z", true)
  | 3 => ("OstlerHoursModel", "text", "[I", true)
  | 4 => ("OstlerHoursModel", "length", "I", false)
  | 5 => ("OstlerHoursModel", "seenMany", "I", false)
  | 6 => ("OstlerHoursModel", "seenMiles", "[I", true)
  | 7 => ("OstlerHoursModel", "seenTook", "[I", true)
  | 8 => ("OstlerHoursModel", "seenTired", "[I", true)
  | 9 => ("OstlerHoursModel", "sizes", "[I", true)
  | 10 => ("OstlerHoursModel", "sorts", "[I", true)
  | 11 => ("OstlerHoursModel", "values", "[I", true)
  | 12 => ("OstlerHoursModel", "first", "I", false)
  | 13 => ("OstlerHoursModel", "behind", "I", false)
  | 14 => ("OstlerHoursModel", "readInns", "I", false)
  | 15 => ("OstlerHoursModel", "readHours", "I", false)
  | 16 => ("OstlerHoursModel", "readRiders", "I", false)
  | 17 => ("OstlerHoursModel", "clauses", "I", false)
  | 18 => ("OstlerHoursModel", "doing", "Z", false)
  | 19 => ("OstlerHoursModel", "numbers", "[I", true)
  | 20 => ("OstlerHoursModel", "roadWord", "[I", true)
  | 21 => ("OstlerHoursModel", "innWord", "[I", true)
  | 22 => ("OstlerHoursModel", "hackWord", "[I", true)
  | 23 => ("OstlerHoursModel", "viciousWord", "[I", true)
  | 24 => ("OstlerHoursModel", "dawnWord", "[I", true)
  | 25 => ("OstlerHoursModel", "greyWord", "[I", true)
  | 26 => ("OstlerHoursModel", "midnightWord", "[I", true)
  | 27 => ("OstlerHoursModel", "riderWord", "[I", true)
  | 28 => ("OstlerHoursModel", "ridden", "I", false)
  | 29 => ("OstlerHoursModel", "led", "I", false)
  | 30 => ("OstlerHoursModel", "line", "[I", true)
  | 31 => ("OstlerHoursModel", "bestLine", "[I", true)
  | 32 => ("OstlerHoursModel", "movedSorts", "[I", true)
  | _ => ("OstlerHoursModel", "movedValues", "[I", true)
def tyX12 : Nat → FieldType := fun k => match k with
  | 0 => .array .int
  | 1 => .int
  | 2 => .array .boolean
  | 3 => .array .int
  | 4 => .int
  | 5 => .int
  | 6 => .array .int
  | 7 => .array .int
  | 8 => .array .int
  | 9 => .array .int
  | 10 => .array .int
  | 11 => .array .int
  | 12 => .int
  | 13 => .int
  | 14 => .int
  | 15 => .int
  | 16 => .int
  | 17 => .int
  | 18 => .boolean
  | 19 => .array .int
  | 20 => .array .int
  | 21 => .array .int
  | 22 => .array .int
  | 23 => .array .int
  | 24 => .array .int
  | 25 => .array .int
  | 26 => .array .int
  | 27 => .array .int
  | 28 => .int
  | 29 => .int
  | 30 => .array .int
  | 31 => .array .int
  | 32 => .array .int
  | _ => .array .int
theorem nmX12 : ∀ a, a < 34 → ∀ b, b < 34 → a ≠ b → (TX12 a).2.1 ≠ (TX12 b).2.1 := by decide +kernel
theorem tyX12_ok : ∀ k, k < 34 → parseFieldDescriptor (TX12 k).2.2.1 = some (tyX12 k) := by decide +kernel
abbrev cX12_init : ByteArray := prog_14_method_1_code
def yX12_init : MethodName := ⟨RX12, "<init>", "()V"⟩
abbrev cX12_in : ByteArray := prog_14_method_2_code
def yX12_in : MethodName := ⟨RX12, "in", "(JJJ)Z"⟩
abbrev cX12_has : ByteArray := prog_14_method_3_code
def yX12_has : MethodName := ⟨RX12, "has", "(II)Z"⟩
abbrev cX12_bits : ByteArray := prog_14_method_4_code
def yX12_bits : MethodName := ⟨RX12, "bits", "(I)I"⟩
abbrev cX12_write : ByteArray := prog_14_method_5_code
def yX12_write : MethodName := ⟨RX12, "write", "(I)I"⟩
abbrev cX12_erase : ByteArray := prog_14_method_6_code
def yX12_erase : MethodName := ⟨RX12, "erase", "()I"⟩
abbrev cX12_isLetter : ByteArray := prog_14_method_7_code
def yX12_isLetter : MethodName := ⟨RX12, "isLetter", "(I)Z"⟩
abbrev cX12_isDigit : ByteArray := prog_14_method_8_code
def yX12_isDigit : MethodName := ⟨RX12, "isDigit", "(I)Z"⟩
abbrev cX12_nextToken : ByteArray := prog_14_method_9_code
def yX12_nextToken : MethodName := ⟨RX12, "nextToken", "()V"⟩
abbrev cX12_isWord : ByteArray := prog_14_method_10_code
def yX12_isWord : MethodName := ⟨RX12, "isWord", "([I)Z"⟩
abbrev cX12_number : ByteArray := prog_14_method_11_code
def yX12_number : MethodName := ⟨RX12, "number", "(III)Z"⟩
abbrev cX12_kindHere : ByteArray := prog_14_method_12_code
def yX12_kindHere : MethodName := ⟨RX12, "kindHere", "()I"⟩
abbrev cX12_readsHour : ByteArray := prog_14_method_13_code
def yX12_readsHour : MethodName := ⟨RX12, "readsHour", "(I)Z"⟩
abbrev cX12_readsInn : ByteArray := prog_14_method_14_code
def yX12_readsInn : MethodName := ⟨RX12, "readsInn", "()Z"⟩
abbrev cX12_readsRider : ByteArray := prog_14_method_15_code
def yX12_readsRider : MethodName := ⟨RX12, "readsRider", "()Z"⟩
abbrev cX12_readsRoad : ByteArray := prog_14_method_16_code
def yX12_readsRoad : MethodName := ⟨RX12, "readsRoad", "()Z"⟩
abbrev cX12_readsClause : ByteArray := prog_14_method_17_code
def yX12_readsClause : MethodName := ⟨RX12, "readsClause", "()Z"⟩
abbrev cX12_reads : ByteArray := prog_14_method_18_code
def yX12_reads : MethodName := ⟨RX12, "reads", "(Z)Z"⟩
abbrev cX12_fault : ByteArray := prog_14_method_19_code
def yX12_fault : MethodName := ⟨RX12, "fault", "()I"⟩
abbrev cX12_copyRoad : ByteArray := prog_14_method_20_code
def yX12_copyRoad : MethodName := ⟨RX12, "copyRoad", "(II)V"⟩
abbrev cX12_road : ByteArray := prog_14_method_21_code
def yX12_road : MethodName := ⟨RX12, "road", "()I"⟩
abbrev cX12_isInn : ByteArray := prog_14_method_22_code
def yX12_isInn : MethodName := ⟨RX12, "isInn", "(I)Z"⟩
abbrev cX12_isHour : ByteArray := prog_14_method_23_code
def yX12_isHour : MethodName := ⟨RX12, "isHour", "(I)Z"⟩
abbrev cX12_isRider : ByteArray := prog_14_method_24_code
def yX12_isRider : MethodName := ⟨RX12, "isRider", "(I)Z"⟩
abbrev cX12_takes : ByteArray := prog_14_method_25_code
def yX12_takes : MethodName := ⟨RX12, "takes", "(II)I"⟩
abbrev cX12_tires : ByteArray := prog_14_method_26_code
def yX12_tires : MethodName := ⟨RX12, "tires", "(II)I"⟩
abbrev cX12_rests : ByteArray := prog_14_method_27_code
def yX12_rests : MethodName := ⟨RX12, "rests", "(I)I"⟩
abbrev cX12_hour : ByteArray := prog_14_method_28_code
def yX12_hour : MethodName := ⟨RX12, "hour", "(II)I"⟩
abbrev cX12_rider : ByteArray := prog_14_method_29_code
def yX12_rider : MethodName := ⟨RX12, "rider", "(II)I"⟩
abbrev cX12_inn : ByteArray := prog_14_method_30_code
def yX12_inn : MethodName := ⟨RX12, "inn", "(I)I"⟩
abbrev cX12_as : ByteArray := prog_14_method_31_code
def yX12_as : MethodName := ⟨RX12, "as", "(II)I"⟩
abbrev cX12_givenIn : ByteArray := prog_14_method_32_code
def yX12_givenIn : MethodName := ⟨RX12, "givenIn", "(II)I"⟩
abbrev cX12_next : ByteArray := prog_14_method_33_code
def yX12_next : MethodName := ⟨RX12, "next", "(II)I"⟩
abbrev cX12_milesOn : ByteArray := prog_14_method_34_code
def yX12_milesOn : MethodName := ⟨RX12, "milesOn", "(III)I"⟩
abbrev cX12_tire : ByteArray := prog_14_method_35_code
def yX12_tire : MethodName := ⟨RX12, "tire", "(III)V"⟩
abbrev cX12_rides : ByteArray := prog_14_method_36_code
def yX12_rides : MethodName := ⟨RX12, "rides", "(II)V"⟩
abbrev cX12_leads : ByteArray := prog_14_method_37_code
def yX12_leads : MethodName := ⟨RX12, "leads", "(II)V"⟩
abbrev cX12_restAll : ByteArray := prog_14_method_38_code
def yX12_restAll : MethodName := ⟨RX12, "restAll", "(I)V"⟩
abbrev cX12_passes : ByteArray := prog_14_method_39_code
def yX12_passes : MethodName := ⟨RX12, "passes", "(I)V"⟩
abbrev cX12_keepPast : ByteArray := prog_14_method_40_code
def yX12_keepPast : MethodName := ⟨RX12, "keepPast", "()V"⟩
abbrev cX12_stage : ByteArray := prog_14_method_41_code
def yX12_stage : MethodName := ⟨RX12, "stage", "(I)I"⟩
abbrev cX12_oat : ByteArray := prog_14_method_42_code
def yX12_oat : MethodName := ⟨RX12, "oat", "(II)V"⟩
abbrev cX12_oats : ByteArray := prog_14_method_43_code
def yX12_oats : MethodName := ⟨RX12, "oats", "(I)I"⟩
abbrev cX12_shoe : ByteArray := prog_14_method_44_code
def yX12_shoe : MethodName := ⟨RX12, "shoe", "(I)I"⟩
abbrev cX12_lead : ByteArray := prog_14_method_45_code
def yX12_lead : MethodName := ⟨RX12, "lead", "(II)I"⟩
abbrev cX12_turn : ByteArray := prog_14_method_46_code
def yX12_turn : MethodName := ⟨RX12, "turn", "(II)I"⟩
abbrev cX12_undo : ByteArray := prog_14_method_47_code
def yX12_undo : MethodName := ⟨RX12, "undo", "()I"⟩
abbrev cX12_keep : ByteArray := prog_14_method_48_code
def yX12_keep : MethodName := ⟨RX12, "keep", "(I)I"⟩
abbrev cX12_back : ByteArray := prog_14_method_49_code
def yX12_back : MethodName := ⟨RX12, "back", "(I)I"⟩
abbrev cX12_isRiding : ByteArray := prog_14_method_50_code
def yX12_isRiding : MethodName := ⟨RX12, "isRiding", "(I)Z"⟩
abbrev cX12_given : ByteArray := prog_14_method_51_code
def yX12_given : MethodName := ⟨RX12, "given", "(I)I"⟩
abbrev cX12_layTried : ByteArray := prog_14_method_52_code
def yX12_layTried : MethodName := ⟨RX12, "layTried", "()V"⟩
abbrev cX12_ahead : ByteArray := prog_14_method_53_code
def yX12_ahead : MethodName := ⟨RX12, "ahead", "(III)I"⟩
abbrev cX12_comesBy : ByteArray := prog_14_method_54_code
def yX12_comesBy : MethodName := ⟨RX12, "comesBy", "(II)I"⟩
abbrev cX12_comes : ByteArray := prog_14_method_55_code
def yX12_comes : MethodName := ⟨RX12, "comes", "(II)I"⟩
abbrev cX12_takenByLine : ByteArray := prog_14_method_56_code
def yX12_takenByLine : MethodName := ⟨RX12, "takenByLine", "()I"⟩
abbrev cX12_nextLine : ByteArray := prog_14_method_57_code
def yX12_nextLine : MethodName := ⟨RX12, "nextLine", "()Z"⟩
abbrev cX12_match : ByteArray := prog_14_method_58_code
def yX12_match : MethodName := ⟨RX12, "match", "(I)I"⟩
abbrev cX12_fastestAt : ByteArray := prog_14_method_59_code
def yX12_fastestAt : MethodName := ⟨RX12, "fastestAt", "(II)I"⟩
abbrev cX12_fastest : ByteArray := prog_14_method_60_code
def yX12_fastest : MethodName := ⟨RX12, "fastest", "(I)I"⟩
abbrev cX12_feed : ByteArray := prog_14_method_61_code
def yX12_feed : MethodName := ⟨RX12, "feed", "(II)I"⟩
abbrev cX12_falls : ByteArray := prog_14_method_62_code
def yX12_falls : MethodName := ⟨RX12, "falls", "(IIII)I"⟩
abbrev cX12_seen : ByteArray := prog_14_method_63_code
def yX12_seen : MethodName := ⟨RX12, "seen", "(III)I"⟩
abbrev cX12_forget : ByteArray := prog_14_method_64_code
def yX12_forget : MethodName := ⟨RX12, "forget", "()I"⟩
abbrev cX12_kinds : ByteArray := prog_14_method_65_code
def yX12_kinds : MethodName := ⟨RX12, "kinds", "()I"⟩
abbrev cX12_greatestPart : ByteArray := prog_14_method_66_code
def yX12_greatestPart : MethodName := ⟨RX12, "greatestPart", "(II)I"⟩
abbrev cX12_ask : ByteArray := prog_14_method_67_code
def yX12_ask : MethodName := ⟨RX12, "ask", "()I"⟩
abbrev cX12_isBook : ByteArray := prog_14_method_68_code
def yX12_isBook : MethodName := ⟨RX12, "isBook", "(I)Z"⟩
abbrev cX12_book : ByteArray := prog_14_method_69_code
def yX12_book : MethodName := ⟨RX12, "book", "(II)I"⟩
abbrev cX12_noLine : ByteArray := prog_14_method_70_code
def yX12_noLine : MethodName := ⟨RX12, "noLine", "(II)I"⟩
abbrev cX12_enter : ByteArray := prog_14_method_71_code
def yX12_enter : MethodName := ⟨RX12, "enter", "(IIII)I"⟩
abbrev cX12_read : ByteArray := prog_14_method_72_code
def yX12_read : MethodName := ⟨RX12, "read", "(III)I"⟩
abbrev cX12_toldBy : ByteArray := prog_14_method_73_code
def yX12_toldBy : MethodName := ⟨RX12, "toldBy", "(I)I"⟩
abbrev cX12_weightOf : ByteArray := prog_14_method_74_code
def yX12_weightOf : MethodName := ⟨RX12, "weightOf", "(I)I"⟩
abbrev cX12_weigh : ByteArray := prog_14_method_75_code
def yX12_weigh : MethodName := ⟨RX12, "weigh", "(II)I"⟩
abbrev cX12_isSpan : ByteArray := prog_14_method_76_code
def yX12_isSpan : MethodName := ⟨RX12, "isSpan", "(III)Z"⟩
abbrev cX12_copy : ByteArray := prog_14_method_77_code
def yX12_copy : MethodName := ⟨RX12, "copy", "(IIIII)I"⟩
abbrev cX12_drop : ByteArray := prog_14_method_78_code
def yX12_drop : MethodName := ⟨RX12, "drop", "(I)I"⟩
abbrev cX12_lameOnes : ByteArray := prog_14_method_79_code
def yX12_lameOnes : MethodName := ⟨RX12, "lameOnes", "()I"⟩
abbrev cX12_thereOnes : ByteArray := prog_14_method_80_code
def yX12_thereOnes : MethodName := ⟨RX12, "thereOnes", "()I"⟩
abbrev cX12_clocks : ByteArray := prog_14_method_81_code
def yX12_clocks : MethodName := ⟨RX12, "clocks", "()I"⟩
abbrev cX12_booksThere : ByteArray := prog_14_method_82_code
def yX12_booksThere : MethodName := ⟨RX12, "booksThere", "()I"⟩
abbrev cX12_count : ByteArray := prog_14_method_83_code
def yX12_count : MethodName := ⟨RX12, "count", "(I)I"⟩
def RJ6 : String := "java/lang/Integer"
abbrev cJ6_compare_7cf53 : ByteArray := prog_15_method_40_code
def yJ6_compare_7cf53 : MethodName := ⟨RJ6, "compare", "(II)I"⟩
abbrev cJ6_bitCount_0f7a4 : ByteArray := prog_15_method_49_code
def yJ6_bitCount_0f7a4 : MethodName := ⟨RJ6, "bitCount", "(I)I"⟩
def RJ9 : String := "java/lang/Math"
abbrev cJ9_max_7cf53 : ByteArray := prog_16_method_65_code
def yJ9_max_7cf53 : MethodName := ⟨RJ9, "max", "(II)I"⟩
abbrev cJ9_min_7cf53 : ByteArray := prog_16_method_69_code
def yJ9_min_7cf53 : MethodName := ⟨RJ9, "min", "(II)I"⟩
def RJ0 : String := "java/lang/String"
abbrev cJ0_length_8abf5 : ByteArray := prog_17_method_54_code
def yJ0_length_8abf5 : MethodName := ⟨RJ0, "length", "()I"⟩
abbrev cJ0_charAt_5068e : ByteArray := prog_17_method_56_code
def yJ0_charAt_5068e : MethodName := ⟨RJ0, "charAt", "(I)C"⟩
abbrev cJ0_coder_7d493 : ByteArray := prog_17_method_152_code
def yJ0_coder_7d493 : MethodName := ⟨RJ0, "coder", "()B"⟩
abbrev cJ0_isLatin1_aae02 : ByteArray := prog_17_method_154_code
def yJ0_isLatin1_aae02 : MethodName := ⟨RJ0, "isLatin1", "()Z"⟩
abbrev cJ0_checkIndex_df160 : ByteArray := prog_17_method_155_code
def yJ0_checkIndex_df160 : MethodName := ⟨RJ0, "checkIndex", "(II)V"⟩
def RJ1 : String := "java/lang/StringLatin1"
abbrev cJ1_charAt_3b067 : ByteArray := prog_18_method_2_code
def yJ1_charAt_3b067 : MethodName := ⟨RJ1, "charAt", "([BI)C"⟩
def RJ2 : String := "java/lang/StringUTF16"
abbrev cJ2_getChar_3b067 : ByteArray := prog_19_method_5_code
def yJ2_getChar_3b067 : MethodName := ⟨RJ2, "getChar", "([BI)C"⟩
abbrev cJ2_length_9d52b : ByteArray := prog_19_method_6_code
def yJ2_length_9d52b : MethodName := ⟨RJ2, "length", "([B)I"⟩
abbrev cJ2_charAt_3b067 : ByteArray := prog_19_method_83_code
def yJ2_charAt_3b067 : MethodName := ⟨RJ2, "charAt", "([BI)C"⟩
abbrev cJ2_checkIndex_2214a : ByteArray := prog_19_method_91_code
def yJ2_checkIndex_2214a : MethodName := ⟨RJ2, "checkIndex", "(I[B)V"⟩
def RJ10 : String := "java/lang/System"
def RJ3 : String := "jdk/internal/util/Preconditions"
abbrev cJ3_checkIndex_8e157 : ByteArray := prog_21_method_11_code
def yJ3_checkIndex_8e157 : MethodName := ⟨RJ3, "checkIndex", "(IILjava/util/function/BiFunction;)I"⟩
def RL : String := "OstlerHoursLaw"
abbrev cL_law : ByteArray := code
def yL_law : MethodName := ⟨RL, "law", "([I)Z"⟩
abbrev vwCl : List vw_C := [(RX0, TX0, 3), (RX1, TX1, 9), (RX4, TX4, 4), (RX5, TX5, 3), (RX6, TX6, 3), (RX7, TX7, 9), (RX8, TX8, 1), (RX9, TX9, 4), (RX10, TX10, 5), (RX11, TX11, 11), (RX12, TX12, 34)]
